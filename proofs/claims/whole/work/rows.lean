section
-- ===== PART A: goes FIRST, ahead of the names: the tables' words, and 'selects' of the private methods out of them =====
/-- a private method of a class that the tables say can be made, by its rows of tables_1 -/
def lw_okq (q : MethodName × Nat) : Prop := (q.1.cls ≠ "java/lang/invoke/MethodHandle" ∧ q.1.cls ≠ "java/lang/invoke/VarHandle") ∧ Cond.instantiable q.1.cls q.2 ∈ tables_1 ∧ Cond.privateMethod q.1 ∈ tables_1 ∧ Cond.instanceMethod q.1 ∈ tables_1
theorem lw_p0 : lw_okq (⟨"DotStores", "replicaAt", "(I)LDotStores$State;"⟩, 6) := ⟨⟨by decide +kernel, by decide +kernel⟩, List.mem_of_getElem? (i := 15) (by decide +kernel), List.mem_of_getElem? (i := 119) (by decide +kernel), List.mem_of_getElem? (i := 120) (by decide +kernel)⟩
theorem lw_p1 : lw_okq (⟨"java/lang/Throwable", "fillInStackTrace", "(I)Ljava/lang/Throwable;"⟩, 6) := ⟨⟨by decide +kernel, by decide +kernel⟩, List.mem_of_getElem? (i := 162) (by decide +kernel), List.mem_of_getElem? (i := 160) (by decide +kernel), List.mem_of_getElem? (i := 161) (by decide +kernel)⟩
theorem lw_p2 : lw_okq (⟨"DotStores", "turn", "(LDotStores$State;IIIZ)I"⟩, 6) := ⟨⟨by decide +kernel, by decide +kernel⟩, List.mem_of_getElem? (i := 15) (by decide +kernel), List.mem_of_getElem? (i := 215) (by decide +kernel), List.mem_of_getElem? (i := 216) (by decide +kernel)⟩
theorem lw_p3 : lw_okq (⟨"DotStores", "requireDot", "(I)V"⟩, 6) := ⟨⟨by decide +kernel, by decide +kernel⟩, List.mem_of_getElem? (i := 15) (by decide +kernel), List.mem_of_getElem? (i := 219) (by decide +kernel), List.mem_of_getElem? (i := 220) (by decide +kernel)⟩
theorem lw_p4 : lw_okq (⟨"DotStores", "openDelta", "()LDotStores$State;"⟩, 6) := ⟨⟨by decide +kernel, by decide +kernel⟩, List.mem_of_getElem? (i := 15) (by decide +kernel), List.mem_of_getElem? (i := 243) (by decide +kernel), List.mem_of_getElem? (i := 244) (by decide +kernel)⟩
theorem lw_p5 : lw_okq (⟨"DotStores", "takeBack", "(LDotStores$State;LDotStores$State;III)J"⟩, 6) := ⟨⟨by decide +kernel, by decide +kernel⟩, List.mem_of_getElem? (i := 15) (by decide +kernel), List.mem_of_getElem? (i := 248) (by decide +kernel), List.mem_of_getElem? (i := 249) (by decide +kernel)⟩
theorem lw_p6 : lw_okq (⟨"DotStores", "finish", "(LDotStores$State;LDotStores$State;)I"⟩, 6) := ⟨⟨by decide +kernel, by decide +kernel⟩, List.mem_of_getElem? (i := 15) (by decide +kernel), List.mem_of_getElem? (i := 273) (by decide +kernel), List.mem_of_getElem? (i := 274) (by decide +kernel)⟩
theorem lw_p7 : lw_okq (⟨"DotStores$State", "takeDots", "(LDotStores$State;)Z"⟩, 5) := ⟨⟨by decide +kernel, by decide +kernel⟩, List.mem_of_getElem? (i := 59) (by decide +kernel), List.mem_of_getElem? (i := 281) (by decide +kernel), List.mem_of_getElem? (i := 282) (by decide +kernel)⟩
theorem lw_p8 : lw_okq (⟨"DotStores$State", "takeTwice", "(LDotStores$State;)Z"⟩, 5) := ⟨⟨by decide +kernel, by decide +kernel⟩, List.mem_of_getElem? (i := 59) (by decide +kernel), List.mem_of_getElem? (i := 286) (by decide +kernel), List.mem_of_getElem? (i := 287) (by decide +kernel)⟩
theorem lw_p9 : lw_okq (⟨"DotStores$State", "takeTimed", "(LDotStores$State;)Z"⟩, 5) := ⟨⟨by decide +kernel, by decide +kernel⟩, List.mem_of_getElem? (i := 59) (by decide +kernel), List.mem_of_getElem? (i := 290) (by decide +kernel), List.mem_of_getElem? (i := 291) (by decide +kernel)⟩
theorem lw_p10 : lw_okq (⟨"DotStores", "deltaAt", "(I)LDotStores$State;"⟩, 6) := ⟨⟨by decide +kernel, by decide +kernel⟩, List.mem_of_getElem? (i := 15) (by decide +kernel), List.mem_of_getElem? (i := 370) (by decide +kernel), List.mem_of_getElem? (i := 371) (by decide +kernel)⟩
theorem lw_p11 : lw_okq (⟨"DotStores", "orderValues", "(LDotStores$State;I)I"⟩, 6) := ⟨⟨by decide +kernel, by decide +kernel⟩, List.mem_of_getElem? (i := 15) (by decide +kernel), List.mem_of_getElem? (i := 417) (by decide +kernel), List.mem_of_getElem? (i := 418) (by decide +kernel)⟩
theorem lw_p12 : lw_okq (⟨"DotStores", "orderValue", "(JI)I"⟩, 6) := ⟨⟨by decide +kernel, by decide +kernel⟩, List.mem_of_getElem? (i := 15) (by decide +kernel), List.mem_of_getElem? (i := 421) (by decide +kernel), List.mem_of_getElem? (i := 422) (by decide +kernel)⟩
theorem lw_p13 : lw_okq (⟨"DotStoresModel", "refusal", "(IIZIZ)I"⟩, 14) := ⟨⟨by decide +kernel, by decide +kernel⟩, List.mem_of_getElem? (i := 514) (by decide +kernel), List.mem_of_getElem? (i := 578) (by decide +kernel), List.mem_of_getElem? (i := 579) (by decide +kernel)⟩
theorem lw_p14 : lw_okq (⟨"DotStoresModel", "isReplica", "(I)Z"⟩, 14) := ⟨⟨by decide +kernel, by decide +kernel⟩, List.mem_of_getElem? (i := 514) (by decide +kernel), List.mem_of_getElem? (i := 582) (by decide +kernel), List.mem_of_getElem? (i := 583) (by decide +kernel)⟩
theorem lw_p15 : lw_okq (⟨"DotStoresModel", "hasRoom", "(IZ)Z"⟩, 14) := ⟨⟨by decide +kernel, by decide +kernel⟩, List.mem_of_getElem? (i := 514) (by decide +kernel), List.mem_of_getElem? (i := 589) (by decide +kernel), List.mem_of_getElem? (i := 590) (by decide +kernel)⟩
def lw_privs_1 : List (MethodName × Nat) := [(⟨"DotStores", "replicaAt", "(I)LDotStores$State;"⟩, 6), (⟨"java/lang/Throwable", "fillInStackTrace", "(I)Ljava/lang/Throwable;"⟩, 6), (⟨"DotStores", "turn", "(LDotStores$State;IIIZ)I"⟩, 6), (⟨"DotStores", "requireDot", "(I)V"⟩, 6), (⟨"DotStores", "openDelta", "()LDotStores$State;"⟩, 6), (⟨"DotStores", "takeBack", "(LDotStores$State;LDotStores$State;III)J"⟩, 6), (⟨"DotStores", "finish", "(LDotStores$State;LDotStores$State;)I"⟩, 6), (⟨"DotStores$State", "takeDots", "(LDotStores$State;)Z"⟩, 5), (⟨"DotStores$State", "takeTwice", "(LDotStores$State;)Z"⟩, 5), (⟨"DotStores$State", "takeTimed", "(LDotStores$State;)Z"⟩, 5), (⟨"DotStores", "deltaAt", "(I)LDotStores$State;"⟩, 6), (⟨"DotStores", "orderValues", "(LDotStores$State;I)I"⟩, 6), (⟨"DotStores", "orderValue", "(JI)I"⟩, 6), (⟨"DotStoresModel", "refusal", "(IIZIZ)I"⟩, 14), (⟨"DotStoresModel", "isReplica", "(I)Z"⟩, 14), (⟨"DotStoresModel", "hasRoom", "(IZ)Z"⟩, 14)]
theorem lw_r1 : ∀ q ∈ lw_privs_1, lw_okq q := List.forall_mem_cons.mpr ⟨lw_p0, List.forall_mem_cons.mpr ⟨lw_p1, List.forall_mem_cons.mpr ⟨lw_p2, List.forall_mem_cons.mpr ⟨lw_p3, List.forall_mem_cons.mpr ⟨lw_p4, List.forall_mem_cons.mpr ⟨lw_p5, List.forall_mem_cons.mpr ⟨lw_p6, List.forall_mem_cons.mpr ⟨lw_p7, List.forall_mem_cons.mpr ⟨lw_p8, List.forall_mem_cons.mpr ⟨lw_p9, List.forall_mem_cons.mpr ⟨lw_p10, List.forall_mem_cons.mpr ⟨lw_p11, List.forall_mem_cons.mpr ⟨lw_p12, List.forall_mem_cons.mpr ⟨lw_p13, List.forall_mem_cons.mpr ⟨lw_p14, List.forall_mem_cons.mpr ⟨lw_p15, fun _ h => absurd h List.not_mem_nil⟩⟩⟩⟩⟩⟩⟩⟩⟩⟩⟩⟩⟩⟩⟩⟩
theorem lw_p16 : lw_okq (⟨"DotStoresModel", "greatest", "(II)I"⟩, 14) := ⟨⟨by decide +kernel, by decide +kernel⟩, List.mem_of_getElem? (i := 514) (by decide +kernel), List.mem_of_getElem? (i := 593) (by decide +kernel), List.mem_of_getElem? (i := 594) (by decide +kernel)⟩
theorem lw_p17 : lw_okq (⟨"DotStoresModel", "change", "(IIIZ)I"⟩, 14) := ⟨⟨by decide +kernel, by decide +kernel⟩, List.mem_of_getElem? (i := 514) (by decide +kernel), List.mem_of_getElem? (i := 600) (by decide +kernel), List.mem_of_getElem? (i := 601) (by decide +kernel)⟩
theorem lw_p18 : lw_okq (⟨"DotStoresModel", "fresh", "()I"⟩, 14) := ⟨⟨by decide +kernel, by decide +kernel⟩, List.mem_of_getElem? (i := 514) (by decide +kernel), List.mem_of_getElem? (i := 604) (by decide +kernel), List.mem_of_getElem? (i := 605) (by decide +kernel)⟩
theorem lw_p19 : lw_okq (⟨"DotStoresModel", "empty", "(I)V"⟩, 14) := ⟨⟨by decide +kernel, by decide +kernel⟩, List.mem_of_getElem? (i := 514) (by decide +kernel), List.mem_of_getElem? (i := 608) (by decide +kernel), List.mem_of_getElem? (i := 609) (by decide +kernel)⟩
theorem lw_p20 : lw_okq (⟨"DotStoresModel", "takeBack", "(IIIII)J"⟩, 14) := ⟨⟨by decide +kernel, by decide +kernel⟩, List.mem_of_getElem? (i := 514) (by decide +kernel), List.mem_of_getElem? (i := 612) (by decide +kernel), List.mem_of_getElem? (i := 613) (by decide +kernel)⟩
theorem lw_p21 : lw_okq (⟨"DotStoresModel", "newDot", "(IIIIJ)V"⟩, 14) := ⟨⟨by decide +kernel, by decide +kernel⟩, List.mem_of_getElem? (i := 514) (by decide +kernel), List.mem_of_getElem? (i := 622) (by decide +kernel), List.mem_of_getElem? (i := 623) (by decide +kernel)⟩
theorem lw_p22 : lw_okq (⟨"DotStoresModel", "done", "(II)I"⟩, 14) := ⟨⟨by decide +kernel, by decide +kernel⟩, List.mem_of_getElem? (i := 514) (by decide +kernel), List.mem_of_getElem? (i := 626) (by decide +kernel), List.mem_of_getElem? (i := 627) (by decide +kernel)⟩
theorem lw_p23 : lw_okq (⟨"DotStoresModel", "joinTo", "(II)V"⟩, 14) := ⟨⟨by decide +kernel, by decide +kernel⟩, List.mem_of_getElem? (i := 514) (by decide +kernel), List.mem_of_getElem? (i := 630) (by decide +kernel), List.mem_of_getElem? (i := 631) (by decide +kernel)⟩
theorem lw_p24 : lw_okq (⟨"DotStoresModel", "isAfter", "(II)Z"⟩, 14) := ⟨⟨by decide +kernel, by decide +kernel⟩, List.mem_of_getElem? (i := 514) (by decide +kernel), List.mem_of_getElem? (i := 635) (by decide +kernel), List.mem_of_getElem? (i := 636) (by decide +kernel)⟩
theorem lw_p25 : lw_okq (⟨"DotStoresModel", "copyTimed", "(II)V"⟩, 14) := ⟨⟨by decide +kernel, by decide +kernel⟩, List.mem_of_getElem? (i := 514) (by decide +kernel), List.mem_of_getElem? (i := 639) (by decide +kernel), List.mem_of_getElem? (i := 640) (by decide +kernel)⟩
theorem lw_p26 : lw_okq (⟨"DotStoresModel", "isDelta", "(I)Z"⟩, 14) := ⟨⟨by decide +kernel, by decide +kernel⟩, List.mem_of_getElem? (i := 514) (by decide +kernel), List.mem_of_getElem? (i := 672) (by decide +kernel), List.mem_of_getElem? (i := 673) (by decide +kernel)⟩
theorem lw_p27 : lw_okq (⟨"DotStoresModel", "goes", "(Z)Z"⟩, 14) := ⟨⟨by decide +kernel, by decide +kernel⟩, List.mem_of_getElem? (i := 514) (by decide +kernel), List.mem_of_getElem? (i := 676) (by decide +kernel), List.mem_of_getElem? (i := 677) (by decide +kernel)⟩
theorem lw_p28 : lw_okq (⟨"DotStoresModel", "joined", "(II)I"⟩, 14) := ⟨⟨by decide +kernel, by decide +kernel⟩, List.mem_of_getElem? (i := 514) (by decide +kernel), List.mem_of_getElem? (i := 680) (by decide +kernel), List.mem_of_getElem? (i := 681) (by decide +kernel)⟩
theorem lw_p29 : lw_okq (⟨"DotStoresModel", "copy", "(II)V"⟩, 14) := ⟨⟨by decide +kernel, by decide +kernel⟩, List.mem_of_getElem? (i := 514) (by decide +kernel), List.mem_of_getElem? (i := 684) (by decide +kernel), List.mem_of_getElem? (i := 685) (by decide +kernel)⟩
theorem lw_p30 : lw_okq (⟨"DotStoresModel", "isSame", "(II)Z"⟩, 14) := ⟨⟨by decide +kernel, by decide +kernel⟩, List.mem_of_getElem? (i := 514) (by decide +kernel), List.mem_of_getElem? (i := 688) (by decide +kernel), List.mem_of_getElem? (i := 689) (by decide +kernel)⟩
theorem lw_p31 : lw_okq (⟨"DotStoresModel", "lay", "(II)V"⟩, 14) := ⟨⟨by decide +kernel, by decide +kernel⟩, List.mem_of_getElem? (i := 514) (by decide +kernel), List.mem_of_getElem? (i := 716) (by decide +kernel), List.mem_of_getElem? (i := 717) (by decide +kernel)⟩
def lw_privs_2 : List (MethodName × Nat) := [(⟨"DotStoresModel", "greatest", "(II)I"⟩, 14), (⟨"DotStoresModel", "change", "(IIIZ)I"⟩, 14), (⟨"DotStoresModel", "fresh", "()I"⟩, 14), (⟨"DotStoresModel", "empty", "(I)V"⟩, 14), (⟨"DotStoresModel", "takeBack", "(IIIII)J"⟩, 14), (⟨"DotStoresModel", "newDot", "(IIIIJ)V"⟩, 14), (⟨"DotStoresModel", "done", "(II)I"⟩, 14), (⟨"DotStoresModel", "joinTo", "(II)V"⟩, 14), (⟨"DotStoresModel", "isAfter", "(II)Z"⟩, 14), (⟨"DotStoresModel", "copyTimed", "(II)V"⟩, 14), (⟨"DotStoresModel", "isDelta", "(I)Z"⟩, 14), (⟨"DotStoresModel", "goes", "(Z)Z"⟩, 14), (⟨"DotStoresModel", "joined", "(II)I"⟩, 14), (⟨"DotStoresModel", "copy", "(II)V"⟩, 14), (⟨"DotStoresModel", "isSame", "(II)Z"⟩, 14), (⟨"DotStoresModel", "lay", "(II)V"⟩, 14)]
theorem lw_r2 : ∀ q ∈ lw_privs_2, lw_okq q := List.forall_mem_cons.mpr ⟨lw_p16, List.forall_mem_cons.mpr ⟨lw_p17, List.forall_mem_cons.mpr ⟨lw_p18, List.forall_mem_cons.mpr ⟨lw_p19, List.forall_mem_cons.mpr ⟨lw_p20, List.forall_mem_cons.mpr ⟨lw_p21, List.forall_mem_cons.mpr ⟨lw_p22, List.forall_mem_cons.mpr ⟨lw_p23, List.forall_mem_cons.mpr ⟨lw_p24, List.forall_mem_cons.mpr ⟨lw_p25, List.forall_mem_cons.mpr ⟨lw_p26, List.forall_mem_cons.mpr ⟨lw_p27, List.forall_mem_cons.mpr ⟨lw_p28, List.forall_mem_cons.mpr ⟨lw_p29, List.forall_mem_cons.mpr ⟨lw_p30, List.forall_mem_cons.mpr ⟨lw_p31, fun _ h => absurd h List.not_mem_nil⟩⟩⟩⟩⟩⟩⟩⟩⟩⟩⟩⟩⟩⟩⟩⟩
theorem lw_p32 : lw_okq (⟨"DotStoresModel", "enter", "(J)V"⟩, 14) := ⟨⟨by decide +kernel, by decide +kernel⟩, List.mem_of_getElem? (i := 514) (by decide +kernel), List.mem_of_getElem? (i := 720) (by decide +kernel), List.mem_of_getElem? (i := 721) (by decide +kernel)⟩
theorem lw_p33 : lw_okq (⟨"DotStoresModel", "countOf", "([JII)I"⟩, 14) := ⟨⟨by decide +kernel, by decide +kernel⟩, List.mem_of_getElem? (i := 514) (by decide +kernel), List.mem_of_getElem? (i := 748) (by decide +kernel), List.mem_of_getElem? (i := 749) (by decide +kernel)⟩
def lw_privs_3 : List (MethodName × Nat) := [(⟨"DotStoresModel", "enter", "(J)V"⟩, 14), (⟨"DotStoresModel", "countOf", "([JII)I"⟩, 14)]
theorem lw_r3 : ∀ q ∈ lw_privs_3, lw_okq q := List.forall_mem_cons.mpr ⟨lw_p32, List.forall_mem_cons.mpr ⟨lw_p33, fun _ h => absurd h List.not_mem_nil⟩⟩
def lw_privs : List (MethodName × Nat) := lw_privs_1 ++ (lw_privs_2 ++ (lw_privs_3))
def lw_tbl : List Cond := k2_sels lw_privs ++ tables_1
theorem lw_privs_ok : ∀ q ∈ lw_privs, lw_okq q := by
  show ∀ q ∈ lw_privs_1 ++ (lw_privs_2 ++ (lw_privs_3)), lw_okq q
  exact List.forall_mem_append.mpr ⟨lw_r1, List.forall_mem_append.mpr ⟨lw_r2, lw_r3⟩⟩
end
section
/-! my own rows: an exception that a callee has thrown is looked up in this method's table, its classes linked or not yet -/
section XCA
def x_fd (e : Env) (s : State) (f : JFrame) (a : Addr) (h : Handler) (v : Vm) : Prop :=
  ∀ (Q : Handler → Pre) (E : CtlPost) (d : Bool) (acts : List Action), wp (findHandler f a) Q E e d acts s ↔ Q h d acts (s.setVm v)
/-- a row whose class can be linked: it takes the object, or the search goes on, in warmer tables either way -/
theorem x_row {Q : Handler → Pre} {E : CtlPost} {e : Env} {d : Bool} {acts : List Action} {s : State} {f : JFrame} {a : Addr} {x : ExceptionTableEntry} {t : List ExceptionTableEntry} {c : ClassId} {cell : Cell} {b : Bool}
    (hx : covers x f.pc = true) (h0 : x.catchType ≠ 0) (hl : s.vm.ClassLinks e.platform f.method.cls x.catchType c) (hcell : s.heap[a]? = some cell) (hobj : ∀ k, cell.vm ≠ .statics k)
    (hk : ∃ k, s.vm.classes[cell.cls]? = some k) (hc : ∃ k, s.vm.classes[c]? = some k) (hb : s.vm.assignable cell.cls c = b) :
    wp (findHandler.go f a (x :: t)) Q E e d acts s ↔ (if b = true then Q (.found x.handlerPc) d acts (s.setVm (s.vm.noted f.method.cls x.catchType (.cls c))) else wp (findHandler.go f a t) Q E e d acts (s.setVm (s.vm.noted f.method.cls x.catchType (.cls c)))) := by
  simp only [covers] at hx
  obtain ⟨g1, g2⟩ := (resolveClass_links e.toSetting hl).op (op := VmOp.resolveClass f.method.cls x.catchType) rfl
  have al : s.vm.Alike (s.vm.noted f.method.cls x.catchType (.cls c)) := (Vm.Alike.refl s.vm).noted _ _ _
  obtain ⟨k1, hk1⟩ := hk
  obtain ⟨k2, hk2⟩ := hc
  obtain ⟨k3, hk3, -⟩ := al.2.2 _ _ hk1
  obtain ⟨k4, hk4, -⟩ := al.2.2 _ _ hk2
  have hb2 : (s.vm.noted f.method.cls x.catchType (.cls c)).assignable cell.cls c = b := by rw [al.assignable]; exact hb
  cases b <;> simp [findHandler.go, hx, h0, g1, g2, hcell, hobj, hk3, hk4, hb2, VmOp.dirties, VmOp.acts]
theorem x_go {e : Env} {s₀ : State} {f : JFrame} {a : Addr} {cell : Cell} (hobj : ∀ k, cell.vm ≠ .statics k) (hk0 : ∃ k, s₀.vm.classes[cell.cls]? = some k)
    (x : ExceptionTableEntry) (suf : List ExceptionTableEntry) (hx : covers x f.pc = true) (h0 : x.catchType ≠ 0) {cx : ClassId} (hlx : s₀.vm.ClassLinks e.platform f.method.cls x.catchType cx) (hfit : s₀.vm.assignable cell.cls cx = true) :
    ∀ (pre : List ExceptionTableEntry) (S : State), s₀.WarmedH S.vm → S.heap[a]? = some cell →
      (∀ y ∈ pre, covers y f.pc = false ∨ (y.catchType ≠ 0 ∧ ∃ c, s₀.vm.ClassLinks e.platform f.method.cls y.catchType c ∧ s₀.vm.assignable cell.cls c = false)) →
      ∃ v, s₀.WarmedH v ∧ ∀ (Q : Handler → Pre) (E : CtlPost) (d : Bool) (acts : List Action), wp (findHandler.go f a (pre ++ x :: suf)) Q E e d acts S ↔ Q (.found x.handlerPc) d acts (S.setVm v) := by
  obtain ⟨k0, hk0⟩ := hk0
  intro pre
  induction pre with
  | nil =>
    intro S hW hcell _
    obtain ⟨k1, hk1, -⟩ := hW.alike.2.2 _ _ hk0
    obtain ⟨dk, _, _, kt, hd, _, _, _, _, hkt, _, hop⟩ := hlx.here
    obtain ⟨k2, hk2, -⟩ := hW.alike.2.2 _ _ hkt
    refine ⟨_, hW.noted hd hop (State.rightAt_cls hlx), fun Q E d acts => ?_⟩
    rw [List.nil_append, x_row (b := true) hx h0 (hW.classLinks hlx) hcell hobj ⟨k1, hk1⟩ ⟨k2, hk2⟩ (by rw [hW.alike.assignable]; exact hfit), if_pos rfl]
  | cons y ys ih =>
    intro S hW hcell hp
    have hp2 := fun z (hz : z ∈ ys) => hp z (List.mem_cons_of_mem _ hz)
    by_cases hcov : covers y f.pc = true
    · rcases hp y List.mem_cons_self with h | ⟨hy0, c, hl, hno⟩
      · rw [h] at hcov; cases hcov
      · obtain ⟨k1, hk1, -⟩ := hW.alike.2.2 _ _ hk0
        obtain ⟨dk, _, _, kt, hd, _, _, _, _, hkt, _, hop⟩ := hl.here
        obtain ⟨k2, hk2, -⟩ := hW.alike.2.2 _ _ hkt
        obtain ⟨v, hv, hq⟩ := ih (S.setVm (S.vm.noted f.method.cls y.catchType (.cls c))) (hW.noted hd hop (State.rightAt_cls hl)) hcell hp2
        refine ⟨v, hv, fun Q E d acts => ?_⟩
        rw [List.cons_append, x_row (b := false) hcov hy0 (hW.classLinks hl) hcell hobj ⟨k1, hk1⟩ ⟨k2, hk2⟩ (by rw [hW.alike.assignable]; exact hno), if_neg (by decide)]
        exact hq Q E d acts
    · obtain ⟨v, hv, hq⟩ := ih S hW hcell hp2
      refine ⟨v, hv, fun Q E d acts => ?_⟩
      rw [List.cons_append, Jvm.W.findHandler_go_skip (by simpa using hcov)]
      exact hq Q E d acts
theorem x_step {e : Env} {s : State} {a : Addr} {f : JFrame} {r : List Frame} {pc : Nat} {v : Vm} (hfind : x_fd e s f a (.found pc) v) :
    (stepThrowing e s a (.java f :: r)).Is ((s.setVm v).setFrames (.java { f with pc := pc, stack := [.ref a] } :: r)) [] := by
  simp only [stepThrowing, searchFrame, vmDo]
  generalize hr : Sem.go _ e false [] s = res
  obtain ⟨as, rfl, ha⟩ := Sem.eq_ok_of hr (a := Handler.found pc) (s' := s.setVm v) (acts' := []) (by simp [hfind _ _ _ _])
  exact ⟨rfl, ha⟩
theorem x_ff (u : State) (v : Vm) (F G : List Frame) : ((u.setFrames F).setVm v).setFrames G = (u.setVm v).setFrames G := by
  rw [show (u.setFrames F).setVm v = (u.setVm v).setFrames F from rfl, State.setFrames_setFrames]
theorem x_to {tb : Tables} {e : Env} {s target : State} {g : JFrame} {c : Code} {below : List Frame} {a : Addr} (h : At s g.method c below) {pc : Nat} {v : Vm}
    (hfind : x_fd e ((s.setTop g).pushFrame (.throwing a)) g a (.found pc) v) (hrest : Steps tb e below ((s.setVm v).setTop { g with pc := pc, stack := [.ref a] }) target) :
    Steps tb e below ((s.setTop g).pushFrame (.throwing a)) target := by
  obtain ⟨hgo, hw⟩ := h.throwing a
  refine Steps.head hgo hw ?_
  rw [stepThread_throwing (frames_entered h.top _), (x_step (s := (s.setTop g).pushFrame (.throwing a)) hfind).1]
  obtain ⟨g₀, hg⟩ := Option.isSome_iff_exists.mp h.top
  obtain ⟨r, hr⟩ := State.topJava?_eq_some.mp hg
  rw [State.setTop_of_frames _ (show (s.setVm v).frames = .java g₀ :: r from hr)] at hrest
  rw [hr, List.tail_cons, State.pushFrame, x_ff, State.setTop_of_frames _ hr, x_ff]
  exact hrest
variable {p : Program} {l : Launch} {e : Env} {R : Room} {s : State} {m : MethodId} {args : Array Value} {below : List Frame} {meth : Method} {c : Code} {T : State} {locs : List Loc} {cells slots : Nat}
theorem x_caught (X : Stand p l e R s m args below meth c T locs cells slots) (a : Addr) {g : JFrame} (hg : g.method = m) {s₀ : State} (hcome : Steps p.tables e below s₀ ((T.setTop g).pushFrame (.throwing a)))
    {cell : Cell} (hcell : T.heap[a]? = some cell) (hobj : cell.vm.isStatics = false) (hk0 : ∃ k, s.vm.classes[cell.cls]? = some k)
    (pre : List ExceptionTableEntry) (x : ExceptionTableEntry) (suf : List ExceptionTableEntry) (hsplit : c.exceptionTable.toList = pre ++ x :: suf)
    (hpass : ∀ y ∈ pre, covers y g.pc = false ∨ (y.catchType ≠ 0 ∧ ∃ c, s.vm.ClassLinks e.platform m.cls y.catchType c ∧ s.vm.assignable cell.cls c = false)) (hx : covers x g.pc = true)
    (hend : x.catchType ≠ 0 ∧ ∃ c, s.vm.ClassLinks e.platform m.cls x.catchType c ∧ s.vm.assignable cell.cls c = true) :
    ∃ v, Stand p l e R s m args below meth c (T.setVm v) locs cells slots ∧ Steps p.tables e below s₀ ((T.setVm v).setTop { g with pc := x.handlerPc, stack := [.ref a] }) := by
  subst hg
  obtain ⟨h0, cx, hl, hfit⟩ := hend
  obtain ⟨v, hv, hq⟩ := x_go (e := e) (s₀ := s) (f := g) (a := a) (VmData.ne_statics_of hobj) hk0 x suf hx h0 hl hfit pre ((T.setTop g).pushFrame (.throwing a)) X.warmed hcell hpass
  refine ⟨v, X.noted hv, hcome.trans (x_to X.here (fun Q E d acts => ?_) (Steps.refl _))⟩
  rw [Jvm.W.findHandler_eq (meth := meth) (code := c) (show ((T.setTop g).pushFrame (.throwing a)).vm.method? g.method = some meth from X.method') X.code, hsplit]
  exact hq Q E d acts
end XCA
end
section
/-! ===== BEGIN words of one list among another's, by their places ===== -/
theorem goodIn_r {big : List Cond} (ws : List Cond) (ps : List Nat) (hp : ws = ps.filterMap (fun i => big[i]?)) (h : ws.all goodWord = true) : GoodIn big ws := by
  intro w hw
  have h1 := List.all_eq_true.mp h w hw
  rw [hp] at hw
  obtain ⟨i, -, hi⟩ := List.mem_filterMap.mp hw
  have hm : w ∈ big := by first | exact List.mem_of_getElem? hi | exact List.getElem?_mem hi
  exact ⟨hm, good_of_word h1⟩
theorem goodIn_app {big a b : List Cond} (ha : GoodIn big a) (hb : GoodIn big b) : GoodIn big (a ++ b) := fun w h => (List.mem_append.mp h).elim (ha w) (hb w)
theorem goodIn_ca {big a b : List Cond} {c : Cond} (ha : GoodIn big (c :: a)) (hb : GoodIn big b) : GoodIn big (c :: (a ++ b)) := fun w h => (List.mem_cons.mp h).elim (fun e => ha w (List.mem_cons.mpr (Or.inl e))) (fun h => (List.mem_append.mp h).elim (fun h => ha w (List.mem_cons.mpr (Or.inr h))) (hb w))
theorem goodIn_sub {big ws : List Cond} (hm : ∀ w ∈ ws, w ∈ big) (h : ws.all goodWord = true) : GoodIn big ws := fun w hw => ⟨hm w hw, good_of_word (List.all_eq_true.mp h w hw)⟩
/-! ===== END ===== -/

/-! ===== BEGIN exceptions that leave a method, and their catching by the caller (launches without stack traces) ===== -/
section VXA
/-! The laws vx_back, vx_callV, vx_callS, vx_callSW, vx_throw0, vx_throwS follow proofs of the library, with one case more: JvmDerived/Free/Laws.lean (Back.of_free), Shelf42/LK1.lean (callV, callS), Shelf/KitTraced.lean (throwNew0V, throwNewS). -/
/-- where a method has thrown q: the class by its name, the cell, what was written, the world -/
def vx_T (XC : String → State → State → Prop) (st : State) (q : Addr) (t : State) (mc ms : Nat) (free : Addr → Prop) : Prop :=
  ∃ (E : String) (ce : Cell) (L : List Loc), XC E st t ∧ t.heap[q]? = some ce ∧ ce.vm = .none ∧ st.vm.findClass E = some ce.cls ∧ st.WarmedH t.vm ∧ st.sameButNew ({ t with vm := st.vm } : State) L mc ms ∧ ∀ z ∈ L, free z.base
def vx_Q (Qc : Array Value → State → Outcome → State → Prop) (XC : String → State → State → Prop) (mc ms : Nat) (free : Addr → Prop) : Array Value → State → Outcome → State → Prop := fun a st o t =>
  (Qc a st o t ∧ ∃ L, FrameEnd st o t L mc ms ∧ ∀ q ∈ L, free q.base) ∨ ∃ q, o = .threw q ∧ vx_T XC st q t mc ms free
/-- a callee that returns or throws -/
def vx_Met (l : Launch) (y : MethodName) (ws : List Cond) (rm : Room) (Pc : Array Value → State → Prop) (Qc : Array Value → State → Outcome → State → Prop) (XC : String → State → State → Prop) (mc ms : Nat) (free : Addr → Prop) : Prop :=
  MetFree l y (headSpec ws rm) Pc (fun _ _ _ _ _ => True) (vx_Q Qc XC mc ms free)
def vx_Post (XC : String → State → State → Prop) (mc ms : Nat) (free : Addr → Prop) : Pt → Array Value → Addr → Pt → Prop := fun A a q B =>
  ∃ (g : JFrame) (mk : MethodId) (t : State) (L : List Loc) (E : String) (ce : Cell), B.U.heap = t.heap ∧ B.U.vm = t.vm ∧ XC E (A.U.calling g mk a) t ∧ t.heap[q]? = some ce ∧ ce.vm = .none ∧ A.U.vm.findClass E = some ce.cls ∧ B.locs = A.locs ++ L ∧ (∀ z ∈ L, free z.base) ∧ B.cells = A.cells + mc ∧ B.slots = A.slots + ms
def vx_Back (l : Launch) (R : Room) (p : Program) (e : Env) (below : List Frame) (s : State) (sargs : Array Value) (y : MethodName) (len W9 : Nat)
    (Pre : Pt → Array Value → Prop) (Post : Pt → Array Value → Option Value → Pt → Prop) (PostX : Pt → Array Value → Addr → Pt → Prop) : Prop :=
  ∀ (m : MethodId) (meth : Method) (c : Code) (A : Pt) (g : JFrame) (ig : Instr) (mk : MethodId) (a : Array Value),
    Stand p l e R s m sargs below meth c A.U A.locs A.cells A.slots → g.method = m → g.locals.size = c.maxLocals → decode c.code g.pc = .ok (ig, len) →
    2 * g.monitorRoom + (g.stack.map fun v => v.category).sum ≤ W9 → A.U.methodNamed? y = some mk → Pre A a →
    (∃ (v : Option Value) (B : Pt), Stand p l e R s m sargs below meth c B.U B.locs B.cells B.slots ∧ Post A a v B ∧
      Steps p.tables e below (doInvoke e (A.U.setTop g) [] mk a).1 (B.U.setTop { g with pc := g.pc + len, stack := v.toList ++ g.stack })) ∨
    (∃ (q : Addr) (B : Pt), Stand p l e R s m sargs below meth c B.U B.locs B.cells B.slots ∧ PostX A a q B ∧
      Steps p.tables e below (doInvoke e (A.U.setTop g) [] mk a).1 ((B.U.setTop g).pushFrame (.throwing q)))
section Payer
variable {l : Launch} {R : Room} {p : Program} {e : Env} {below : List Frame} {s : State} {sargs : Array Value} {y : MethodName} {len W9 : Nat}
theorem vx_back {ws : List Cond} {rm : Room} {Pc : Array Value → State → Prop} {Qc : Array Value → State → Outcome → State → Prop} {XC : String → State → State → Prop} {mc ms : Nat} {free : Addr → Prop} {bytes : ByteArray} {maxL : Nat} {ret : Option FieldType}
    (hM : vx_Met l y ws rm Pc Qc XC mc ms free) (hblind : FrameBlind Pc) (hrc : rm.cells = mc) (hrs : rm.slots = ms)
    (hframes : rm.frames + 1 ≤ R.frames) (hlocals : W9 + (maxL + 11) + rm.locals ≤ R.locals)
    (hws : ∀ w ∈ ws, ∀ a' U, s.WarmedH U.vm → w.before a' U = true) (hcode : Cond.code y bytes maxL ret ∈ ws) (hinit : ∀ a' U, s.WarmedH U.vm → (Cond.initialized y.cls).before a' U = true) :
    vx_Back l R p e below s sargs y len W9 (PreOf R mc ms Pc) (PostOf Qc mc ms free) (vx_Post XC mc ms free) := by
  intro m meth c A g ig mk a X hg hsize hdg hW hn hp
  have h1 : (headSpec ws rm).pre.before a A.U = true := atoms_intro fun w hw => hws w hw _ _ X.warmed
  have h2 : (Cond.code y bytes maxL ret).before a A.U = true := hws _ hcode _ _ X.warmed
  have h3 : (Cond.initialized y.cls).before a A.U = true := hinit _ _ X.warmed
  have h4 : A.cells + (headSpec ws rm).room.cells ≤ R.cells := by rw [show (headSpec ws rm).room.cells = mc from hrc]; exact hp.1
  have h5 : A.slots + (headSpec ws rm).room.slots ≤ R.slots := by rw [show (headSpec ws rm).room.slots = ms from hrs]; exact hp.2.1
  have hPc : Pc a (A.U.calling g mk a) := hblind _ _ _ _ hp.2.2
  obtain ⟨U, Ls, c0, s0⟩ := A
  dsimp only [Pt.U, Pt.locs, Pt.cells, Pt.slots] at h1 h2 h3 h4 h5 X hn hPc ⊢
  obtain ⟨methY, cY, hmY, hcY, -, hlY, -, -, -, -⟩ := Cond.code_spec hn h2
  obtain ⟨kY, hkY, -⟩ := className_of_methodNamed hn
  have hinitY : kY.init = .initialized := Cond.initialized_spec (findClass_of_methodNamed hn) hkY h3
  have h : At U g.method c below := by rw [hg]; exact X.here
  have hlocals9 : W9 + (maxL + 11) + (headSpec ws rm).room.locals ≤ R.locals := hlocals
  have happ : (headSpec ws rm).appliesLoose y e.platform (U.calling g mk a) = true :=
    Spec.appliesLoose_calling (g := g) h hdg hn hkY hinitY
      (X.room_calling (g := g) (R' := (headSpec ws rm).room) hsize hmY hcY hframes (by rw [hlY]; omega) h4 h5) h1
  obtain ⟨mid, hmid⟩ := h.above
  have hfr : (U.setTop g).frames = (.java g :: mid) ++ below := by rw [State.frames_setTop' g h.top, hmid]; rfl
  obtain ⟨o, s₂, hsteps, -, hend, hq⟩ := Steps.callFree hM p X.admits X.cas X.clock (acts := []) hfr happ hPc trivial
  have hq' : vx_Q Qc XC mc ms free a (U.calling g mk a) o s₂ := hq
  rw [State.frames_setTop' g h.top] at hend
  obtain ⟨g₀, hg0⟩ := Option.isSome_iff_exists.mp h.top
  obtain ⟨r, hr⟩ := State.topJava?_eq_some.mp hg0
  have hr' : (({ U with heap := s₂.heap, slotsUsed := s₂.slotsUsed } : State).setVm s₂.vm).frames = .java g₀ :: r := hr
  rcases hq' with ⟨hqc, L, hfe, hL⟩ | ⟨q, rfl, E, ce, L, hx, hce, hcv, hcl, hW₂, hsm, hL⟩
  · obtain ⟨⟨v, rfl⟩, hW₂, e2, q2, q3, q4, q5, q6⟩ := id hfe
    have e3 : s₂ = ({ (U.calling g mk a).setFrames s₂.frames with heap := s₂.heap, slotsUsed := s₂.slotsUsed } : State).setVm s₂.vm := by
      have : s₂ = ({ s₂ with vm := (U.calling g mk a).vm } : State).setVm s₂.vm := rfl
      rw [e2] at this
      exact this
    obtain ⟨c₂, i₂, len₂, hc₂, hd₂, hf₂⟩ := hend
    have hW' : U.WarmedH s₂.vm := hW₂
    have hcc : c₂ = c := by
      have h1 : s₂.code? g.method = U.code? g.method := by
        rw [State.code?_eq, State.code?_eq, hW'.alike.method?]
      exact Option.some.inj (hc₂.symm.trans (h1.trans h.code))
    subst hcc
    have hlen : len₂ = len := by rw [hdg] at hd₂; cases hd₂; rfl
    subst hlen
    have hs₂ : s₂ = (({ U with heap := s₂.heap, slotsUsed := s₂.slotsUsed } : State).setVm s₂.vm).setTop { g with pc := g.pc + len₂, stack := v.toList ++ g.stack } := by
      refine e3.trans ?_
      rw [hf₂, State.calling_eq h.top, State.setFrames_setFrames, State.setTop_of_frames _ hr', hr]
      rfl
    have hsame : U.sameButNew ({ U with heap := s₂.heap, slotsUsed := s₂.slotsUsed } : State) L mc ms := by
      refine ⟨?_, q2, q3, q4, q5, q6⟩
      obtain ⟨t, ht, -⟩ := State.frames_cons hr
      show ({ U with heap := s₂.heap, slotsUsed := s₂.slotsUsed } : State) = { U.setFrames U.frames with heap := s₂.heap, slotsUsed := s₂.slotsUsed }
      rw [State.setFrames_self ht]
    subst hg
    refine Or.inl ⟨v, ⟨(({ U with heap := s₂.heap, slotsUsed := s₂.slotsUsed } : State).setVm s₂.vm), Ls ++ L, c0 + mc, s0 + ms⟩,
      ⟨X.admits, X.cas, X.clock, X.frames, X.room, X.hears, X.method, X.code, (X.here.setHeapUsed s₂.heap s₂.slotsUsed).setVm hW'.alike, X.tail, State.WarmedH.trans X.warmed hW', X.limits, X.bytes, X.same.trans (hsame.setVm s.vm)⟩,
      ⟨g, mk, s₂, L, rfl, rfl, hqc, rfl, hL, rfl, rfl⟩, ?_⟩
    show Steps p.tables e below _ ((({ U with heap := s₂.heap, slotsUsed := s₂.slotsUsed } : State).setVm s₂.vm).setTop { g with pc := g.pc + len₂, stack := v.toList ++ g.stack })
    rw [← hs₂]
    exact hsteps
  · obtain ⟨e2, q2, q3, q4, q5, q6⟩ := id hsm
    have e3 : s₂ = ({ (U.calling g mk a).setFrames s₂.frames with heap := s₂.heap, slotsUsed := s₂.slotsUsed } : State).setVm s₂.vm := by
      have : s₂ = ({ s₂ with vm := (U.calling g mk a).vm } : State).setVm s₂.vm := rfl
      rw [e2] at this
      exact this
    have hf₂ : s₂.frames = .throwing q :: .java g :: U.frames.tail := hend
    have hW' : U.WarmedH s₂.vm := hW₂
    have hs₂ : s₂ = ((({ U with heap := s₂.heap, slotsUsed := s₂.slotsUsed } : State).setVm s₂.vm).setTop g).pushFrame (.throwing q) := by
      refine e3.trans ?_
      rw [hf₂, State.calling_eq h.top, State.setFrames_setFrames, State.pushFrame, State.frames_setTop _ hr', State.setTop_of_frames _ hr', State.setFrames_setFrames, hr]
      rfl
    have hsame : U.sameButNew ({ U with heap := s₂.heap, slotsUsed := s₂.slotsUsed } : State) L mc ms := by
      refine ⟨?_, q2, q3, q4, q5, q6⟩
      obtain ⟨t, ht, -⟩ := State.frames_cons hr
      show ({ U with heap := s₂.heap, slotsUsed := s₂.slotsUsed } : State) = { U.setFrames U.frames with heap := s₂.heap, slotsUsed := s₂.slotsUsed }
      rw [State.setFrames_self ht]
    subst hg
    refine Or.inr ⟨q, ⟨(({ U with heap := s₂.heap, slotsUsed := s₂.slotsUsed } : State).setVm s₂.vm), Ls ++ L, c0 + mc, s0 + ms⟩,
      ⟨X.admits, X.cas, X.clock, X.frames, X.room, X.hears, X.method, X.code, (X.here.setHeapUsed s₂.heap s₂.slotsUsed).setVm hW'.alike, X.tail, State.WarmedH.trans X.warmed hW', X.limits, X.bytes, X.same.trans (hsame.setVm s.vm)⟩,
      ⟨g, mk, s₂, L, E, ce, rfl, rfl, hx, hce, hcv, hcl, rfl, hL, rfl, rfl⟩, ?_⟩
    show Steps p.tables e below _ (((({ U with heap := s₂.heap, slotsUsed := s₂.slotsUsed } : State).setVm s₂.vm).setTop g).pushFrame (.throwing q))
    rw [← hs₂]
    exact hsteps
end Payer
section Calls
variable {p : Program} {l : Launch} {e : Env} {R : Room} {s : State} {m : MethodId} {args : Array Value} {below : List Frame} {meth : Method} {c : Code} {T : State} {locs : List Loc} {cells slots : Nat}
theorem vx_callV (X : Stand p l e R s m args below meth c T locs cells slots) (hexec : p.tables.exec = Jvm.exec) {own C : String} {index : Nat} {y : MethodName} {bytes : ByteArray} {maxL : Nat} {ret : Option FieldType}
    (hown : s.vm.findClass own = some m.cls) (hlink : (Cond.methodLink own index y).before args s = true) (hinst : (Cond.instanceMethod y).before args s = true) (hsel : (Cond.selects C y y).before args s = true)
    (hcode : (Cond.code y bytes maxL ret).before args s = true) (hy : y.cls ≠ "java/lang/invoke/MethodHandle" ∧ y.cls ≠ "java/lang/invoke/VarHandle")
    {W9 : Nat} {Pre : Pt → Array Value → Prop} {Post : Pt → Array Value → Option Value → Pt → Prop} {PostX : Pt → Array Value → Addr → Pt → Prop} (hK : vx_Back l R p e below s args y 3 W9 Pre Post PostX)
    {b : Addr} {cellB : Cell} (hcell : T.heap[b]? = some cellB) (hobj : cellB.vm.isStatics = false) (hcls : s.vm.findClass C = some cellB.cls)
    {g : JFrame} (hg : g.method = m) (hsize : g.locals.size = c.maxLocals) {argsL rest : List Value} (hlen : ∀ sig, parseMethodDescriptor y.desc = some sig → argsL.length = sig.parameters.length)
    (hstack : g.stack = argsL.reverse ++ .ref b :: rest) (hW : 2 * g.monitorRoom + (rest.map fun v => v.category).sum ≤ W9) (hdg : decode c.code g.pc = .ok (.invokevirtual index, 3))
    (hpre : ∀ vm₁, s.WarmedH vm₁ → Pre ⟨T.setVm vm₁, locs, cells, slots⟩ (Value.ref b :: argsL).toArray) :
    (∃ (v : Option Value) (vm₁ : Vm) (B : Pt), s.WarmedH vm₁ ∧ Stand p l e R s m args below meth c B.U B.locs B.cells B.slots ∧ Post ⟨T.setVm vm₁, locs, cells, slots⟩ (Value.ref b :: argsL).toArray v B ∧
      ∀ target, Steps p.tables e below (B.U.setTop { g with pc := g.pc + 3, stack := v.toList ++ rest }) target → Steps p.tables e below (T.setTop g) target) ∨
    (∃ (q : Addr) (vm₁ : Vm) (B : Pt), s.WarmedH vm₁ ∧ Stand p l e R s m args below meth c B.U B.locs B.cells B.slots ∧ PostX ⟨T.setVm vm₁, locs, cells, slots⟩ (Value.ref b :: argsL).toArray q B ∧
      Steps p.tables e below (T.setTop g) ((B.U.setTop { g with stack := rest }).pushFrame (.throwing q))) := by
  obtain ⟨mk, methM, hnamed, hmethM, hstM, habM⟩ := Cond.instanceMethod_spec hinst
  obtain ⟨methM', cM, hmethM', -, -, -, -, -, -, hsigM⟩ := Cond.code_spec hnamed hcode
  cases hmethM.symm.trans hmethM'
  obtain ⟨c2, r2, m2, q1, q2, q3, q4, kP, hkP, hkPi⟩ := Cond.selects_spec hsel
  cases hcls.symm.trans q1
  cases (State.methodFound?_of_named hnamed hy).symm.trans q2
  cases hnamed.symm.trans q3
  have hselP : selectMethod e.platform s.vm cellB.cls mk = .method mk := by rw [Launch.admits_selectMethod X.admits]; exact q4
  obtain ⟨vm₁, X₁, hstep₁⟩ := X.invokevirtual hexec hown hlink hnamed hmethM hstM hkP hkPi hy (a := b) (cell := cellB) hcell
    (fun z h => by rw [h] at hobj; cases hobj) hselP hmethM habM hkP hkPi (g := g) hg (argsL := argsL) (rest := rest) (hlen _ hsigM) hstack hdg
  rcases hK m meth c ⟨T.setVm vm₁, locs, cells, slots⟩ { g with stack := rest } (.invokevirtual index) mk (Value.ref b :: argsL).toArray X₁ hg hsize hdg hW (X₁.named hnamed) (hpre vm₁ X₁.warmed) with ⟨v, B, X', hpost, hsteps⟩ | ⟨q, B, X', hpost, hsteps⟩
  · exact Or.inl ⟨v, vm₁, B, X₁.warmed, X', hpost, fun target h => hstep₁ _ fun acts => by rw [doInvoke_state]; exact hsteps.trans h⟩
  · exact Or.inr ⟨q, vm₁, B, X₁.warmed, X', hpost, hstep₁ _ fun acts => by rw [doInvoke_state]; exact hsteps⟩
theorem vx_callS (X : Stand p l e R s m args below meth c T locs cells slots) (hexec : p.tables.exec = Jvm.exec) {own : String} {index : Nat} {y : MethodName} {bytes : ByteArray} {maxL : Nat} {ret : Option FieldType}
    (hown : s.vm.findClass own = some m.cls) (hlink : (Cond.methodLink own index y).before args s = true) (hstat : (Cond.static y).before args s = true) (hinit : (Cond.initialized y.cls).before args s = true)
    (hcode : (Cond.code y bytes maxL ret).before args s = true) (hy : y.cls ≠ "java/lang/invoke/MethodHandle" ∧ y.cls ≠ "java/lang/invoke/VarHandle")
    {W9 : Nat} {Pre : Pt → Array Value → Prop} {Post : Pt → Array Value → Option Value → Pt → Prop} {PostX : Pt → Array Value → Addr → Pt → Prop} (hK : vx_Back l R p e below s args y 3 W9 Pre Post PostX)
    {g : JFrame} (hg : g.method = m) (hsize : g.locals.size = c.maxLocals) {argsL rest : List Value} (hlen : ∀ sig, parseMethodDescriptor y.desc = some sig → argsL.length = sig.parameters.length)
    (hstack : g.stack = argsL.reverse ++ rest) (hW : 2 * g.monitorRoom + (rest.map fun v => v.category).sum ≤ W9) (hdg : decode c.code g.pc = .ok (.invokestatic index, 3))
    (hpre : ∀ vm₁, s.WarmedH vm₁ → Pre ⟨T.setVm vm₁, locs, cells, slots⟩ argsL.toArray) :
    (∃ (v : Option Value) (vm₁ : Vm) (B : Pt), s.WarmedH vm₁ ∧ Stand p l e R s m args below meth c B.U B.locs B.cells B.slots ∧ Post ⟨T.setVm vm₁, locs, cells, slots⟩ argsL.toArray v B ∧
      ∀ target, Steps p.tables e below (B.U.setTop { g with pc := g.pc + 3, stack := v.toList ++ rest }) target → Steps p.tables e below (T.setTop g) target) ∨
    (∃ (q : Addr) (vm₁ : Vm) (B : Pt), s.WarmedH vm₁ ∧ Stand p l e R s m args below meth c B.U B.locs B.cells B.slots ∧ PostX ⟨T.setVm vm₁, locs, cells, slots⟩ argsL.toArray q B ∧
      Steps p.tables e below (T.setTop g) ((B.U.setTop { g with stack := rest }).pushFrame (.throwing q))) := by
  obtain ⟨mk, hnamed⟩ := Cond.code_named hcode
  obtain ⟨methM, cM, hmethM, -, -, -, -, -, -, hsigM⟩ := Cond.code_spec hnamed hcode
  have hstatic : methM.isStatic = true := Cond.static_spec hnamed hmethM hstat
  obtain ⟨kP, hkP, -⟩ := className_of_methodNamed hnamed
  have hinitP : kP.init = .initialized := Cond.initialized_spec (findClass_of_methodNamed hnamed) hkP hinit
  obtain ⟨vm₁, X₁, hstep₁⟩ := X.invokestatic hexec hown hlink hnamed hmethM hstatic hkP hinitP hy (g := g) hg (argsL := argsL) (rest := rest) (hlen _ hsigM) hstack hdg
  rcases hK m meth c ⟨T.setVm vm₁, locs, cells, slots⟩ { g with stack := rest } (.invokestatic index) mk argsL.toArray X₁ hg hsize hdg hW (X₁.named hnamed) (hpre vm₁ X₁.warmed) with ⟨v, B, X', hpost, hsteps⟩ | ⟨q, B, X', hpost, hsteps⟩
  · exact Or.inl ⟨v, vm₁, B, X₁.warmed, X', hpost, fun target h => hstep₁ _ fun acts => by rw [doInvoke_state]; exact hsteps.trans h⟩
  · exact Or.inr ⟨q, vm₁, B, X₁.warmed, X', hpost, hstep₁ _ fun acts => by rw [doInvoke_state]; exact hsteps⟩
end Calls
theorem vx_cls {s : State} {T : State} {vm₁ : Vm} {E : String} {k : ClassId} (hW : s.WarmedH vm₁) (h : (T.setVm vm₁).vm.findClass E = some k) : s.vm.findClass E = some k := by
  have h1 : vm₁.findClass E = some k := h
  rw [hW.alike.findClass] at h1
  exact h1
/-- the method's frame g, with q thrown over it -/
def vx_W (p : Program) (l : Launch) (e : Env) (R : Room) (s : State) (m : MethodId) (args : Array Value) (below : List Frame) (meth : Method) (c : Code) (H : Heap) (locs : List Loc) (cells slots : Nat) (Q : State → Prop) (g : JFrame) (q : Addr) : Prop :=
  ∀ T : State, T.heap = H → Stand p l e R s m args below meth c T locs cells slots → ∃ t, Steps p.tables e below ((T.setTop g).pushFrame (.throwing q)) t ∧ Q t
def vx_Run (p : Program) (l : Launch) (e : Env) (R : Room) (s : State) (m : MethodId) (args : Array Value) (below : List Frame) (meth : Method) (c : Code) (H : Heap) (locs : List Loc) (cells slots mc ms : Nat) (g : JFrame) (rest : List Value) (Qa : State → Outcome → State → Prop) (XC : String → State → State → Prop) (free : Addr → Prop) : Prop :=
  ∀ T : State, T.heap = H → Stand p l e R s m args below meth c T locs cells slots →
    (∃ (v : Option Value) (st₀ t T' : State) (L : List Loc), st₀.heap = H ∧ Stand p l e R s m args below meth c T' (locs ++ L) (cells + mc) (slots + ms) ∧ (∀ q ∈ L, free q.base) ∧ T'.heap = t.heap ∧ T'.vm = t.vm ∧ Qa st₀ (.returned v) t ∧
      Goes p e below T g T' { g with pc := g.pc + 3, stack := v.toList ++ rest }) ∨
    (∃ (q : Addr) (st₀ t T' : State) (L : List Loc) (E : String) (ce : Cell), st₀.heap = H ∧ Stand p l e R s m args below meth c T' (locs ++ L) (cells + mc) (slots + ms) ∧ (∀ z ∈ L, free z.base) ∧ T'.heap = t.heap ∧ T'.vm = t.vm ∧ XC E st₀ t ∧ t.heap[q]? = some ce ∧ ce.vm = .none ∧ s.vm.findClass E = some ce.cls ∧
      Steps p.tables e below (T.setTop g) ((T'.setTop { g with stack := rest }).pushFrame (.throwing q)))
def vx_X {S : Type} (px : S → Prop) (B : String → S → State → Prop) (A : Nat → Prop) : String → State → State → Prop := fun E st t => ∃ u : S, px u ∧ B E u t ∧ va_F A st t
section Runs
variable {p : Program} {l : Launch} {e : Env} {R : Room} {s : State} {m : MethodId} {args : Array Value} {below : List Frame} {meth : Method} {c : Code} {H : Heap} {locs : List Loc} {cells slots : Nat}
variable {y : MethodName} {bytes cc : ByteArray} {maxL nL mc ms n index : Nat} {ret : Option FieldType} {ws : List Cond} {rm : Room} {Pc : Array Value → State → Prop} {Qc : Array Value → State → Outcome → State → Prop} {XC : String → State → State → Prop} {free : Addr → Prop} {Ts : List Cond} {own C : String} {b : Addr} {As rest : List Value} {g : JFrame}
theorem vx_callBack (cb : CallB R s args own index y bytes maxL ret ws rm mc ms n) (hM : vx_Met l y ws rm Pc Qc XC mc ms free) (hbl : FrameBlind Pc) : vx_Back l R p e below s args y 3 8 (PreOf R mc ms Pc) (PostOf Qc mc ms free) (vx_Post XC mc ms free) := by
  obtain ⟨hrc, hrs, hfr, hlo, hws, hcw, -, hini, -⟩ := cb
  exact vx_back (bytes := bytes) (maxL := maxL) (ret := ret) hM hbl hrc hrs hfr hlo hws hcw (fun a' U hW => word_at hW (Or.inl (by first | rfl | simp [Cond.onTables, Cond.keeps, Cond.steady])) hini)
theorem vx_runV (S : CallFix p m c cc nL s args Ts own) (hM : vx_Met l y ws rm Pc Qc XC mc ms free) (cw : CallW R s args own C index y bytes maxL ret ws rm mc ms n) (hp : PreV s H C b Pc As)
    (hg : g.method = m) (hn : As.length = n) (hsize : g.locals.size = nL) (hstack : g.stack = As.reverse ++ .ref b :: rest) (hW : 2 * g.monitorRoom + (rest.map fun v => v.category).sum ≤ 8) (hdg : decode cc g.pc = .ok (.invokevirtual index, 3)) (hf : cells + mc ≤ R.cells ∧ slots + ms ≤ R.slots) :
    vx_Run p l e R s m args below meth c H locs cells slots mc ms g rest (Qc (Value.ref b :: As).toArray) XC free := by
  have hK : vx_Back l R p e below s args y 3 8 (PreOf R mc ms Pc) (PostOf Qc mc ms free) (vx_Post XC mc ms free) := vx_callBack cw.1 hM hp.1
  obtain ⟨⟨-, -, -, -, -, -, hcode, -, hy, hlen, hl⟩, hin, hse⟩ := cw
  obtain ⟨hx, hb, hml, ho, -⟩ := S
  obtain ⟨-, ⟨cellB, hcB, hoB, hclB⟩, hPc⟩ := hp
  intro T hT X
  rcases vx_callV X hx (C := C) (bytes := bytes) (maxL := maxL) (ret := ret) ho hl hin hse hcode hy hK (by rw [hT]; exact hcB) hoB hclB hg (hsize.trans hml.symm) (argsL := As) (rest := rest) (fun sig h => hn.trans (hlen sig h)) hstack hW (by rw [hb]; exact hdg)
    (fun vm₁ hW₁ => ⟨hf.1, hf.2, hPc (T.setVm vm₁) hT hW₁⟩) with ⟨v, vm₁, ⟨U', l2, c2, s2⟩, hW₁, X', ⟨g', mk, t, L, e1, e2, hq, h1, hL, h2, h3⟩, st⟩ | ⟨q, vm₁, ⟨U', l2, c2, s2⟩, hW₁, X', ⟨g', mk, t, L, E, ce, e1, e2, hq, hce, hcv, hcl, h1, hL, h2, h3⟩, st⟩
  · dsimp only [Pt.U, Pt.locs, Pt.cells, Pt.slots] at X' e1 e2 h1 h2 h3 st
    subst h1; subst h2; subst h3
    exact Or.inl ⟨v, (T.setVm vm₁).calling g' mk (Value.ref b :: As).toArray, t, U', L, hT, X', hL, e1, e2, hq, st⟩
  · dsimp only [Pt.U, Pt.locs, Pt.cells, Pt.slots] at X' e1 e2 h1 h2 h3 st hcl
    subst h1; subst h2; subst h3
    exact Or.inr ⟨q, (T.setVm vm₁).calling g' mk (Value.ref b :: As).toArray, t, U', L, E, ce, hT, X', hL, e1, e2, hq, hce, hcv, vx_cls hW₁ hcl, st⟩
theorem vx_runS (S : CallFix p m c cc nL s args Ts own) (hM : vx_Met l y ws rm Pc Qc XC mc ms free) (cw : CallB R s args own index y bytes maxL ret ws rm mc ms n ∧ (Cond.static y).before args s = true) (hp : PreS s H Pc As)
    (hg : g.method = m) (hn : As.length = n) (hsize : g.locals.size = nL) (hstack : g.stack = As.reverse ++ rest) (hW : 2 * g.monitorRoom + (rest.map fun v => v.category).sum ≤ 8) (hdg : decode cc g.pc = .ok (.invokestatic index, 3)) (hf : cells + mc ≤ R.cells ∧ slots + ms ≤ R.slots) :
    vx_Run p l e R s m args below meth c H locs cells slots mc ms g rest (Qc As.toArray) XC free := by
  have hK : vx_Back l R p e below s args y 3 8 (PreOf R mc ms Pc) (PostOf Qc mc ms free) (vx_Post XC mc ms free) := vx_callBack cw.1 hM hp.1
  obtain ⟨⟨-, -, -, -, -, -, hcode, hini, hy, hlen, hl⟩, hstt⟩ := cw
  obtain ⟨hx, hb, hml, ho, -⟩ := S
  intro T hT X
  rcases vx_callS X hx (bytes := bytes) (maxL := maxL) (ret := ret) ho hl hstt hini hcode hy hK hg (hsize.trans hml.symm) (argsL := As) (rest := rest) (fun sig h => hn.trans (hlen sig h)) hstack hW (by rw [hb]; exact hdg)
    (fun vm₁ hW₁ => ⟨hf.1, hf.2, hp.2 (T.setVm vm₁) hT hW₁⟩) with ⟨v, vm₁, ⟨U', l2, c2, s2⟩, hW₁, X', ⟨g', mk, t, L, e1, e2, hq, h1, hL, h2, h3⟩, st⟩ | ⟨q, vm₁, ⟨U', l2, c2, s2⟩, hW₁, X', ⟨g', mk, t, L, E, ce, e1, e2, hq, hce, hcv, hcl, h1, hL, h2, h3⟩, st⟩
  · dsimp only [Pt.U, Pt.locs, Pt.cells, Pt.slots] at X' e1 e2 h1 h2 h3 st
    subst h1; subst h2; subst h3
    exact Or.inl ⟨v, (T.setVm vm₁).calling g' mk As.toArray, t, U', L, hT, X', hL, e1, e2, hq, st⟩
  · dsimp only [Pt.U, Pt.locs, Pt.cells, Pt.slots] at X' e1 e2 h1 h2 h3 st hcl
    subst h1; subst h2; subst h3
    exact Or.inr ⟨q, (T.setVm vm₁).calling g' mk As.toArray, t, U', L, E, ce, hT, X', hL, e1, e2, hq, hce, hcv, vx_cls hW₁ hcl, st⟩
end Runs
section Rows
variable {p : Program} {l : Launch} {e : Env} {R : Room} {s : State} {m : MethodId} {args : Array Value} {below : List Frame} {meth : Method} {c : Code} {H : Heap} {locs : List Loc} {cells slots : Nat} {Q : State → Prop}
variable {mc ms : Nat} {free : Addr → Prop} {A0 A1 : Nat → Prop} {H0 : Heap} {a : Array Value} {pc : Nat} {ls : Array Slot} {st0 rest : List Value}
theorem vx_keep {st₀ t T' : State} {L : List Loc} (h0 : st₀.heap = H) (e1 : T'.heap = t.heap) (hS : va_S A0 H0 H locs) (hA : ∀ q, q < H.size → A1 q → A0 q) (hf : ∀ q, free q → A0 q) (hL : ∀ q ∈ L, free q.base) (hF : va_F A1 st₀ t) :
    H.size ≤ T'.heap.size ∧ (∀ q : Nat, q < H.size → ¬ A1 q → T'.heap[q]? = H[q]?) ∧ va_S A0 H0 T'.heap (locs ++ L) := by
  obtain ⟨hz, hk⟩ := hF
  rw [h0] at hz hk
  exact ⟨by rw [e1]; exact hz, fun q h1 h2 => by rw [e1]; exact hk q h1 h2,
    ⟨Nat.le_trans hS.1 (by rw [e1]; exact hz), fun q h1 h2 => by rw [e1, hk q (Nat.lt_of_lt_of_le h1 hS.1) (fun z => h2 (hA q (Nat.lt_of_lt_of_le h1 hS.1) z))]; exact hS.2.1 q h1 h2, fun q hq => by
      rcases List.mem_append.mp hq with h | h
      · exact hS.2.2 q h
      · exact hf _ (hL q h)⟩⟩
theorem vx_calli {S SX : Type} {post : Int32 → S → Prop} {px : SX → Prop} {B : S → State → Prop} {BX : String → SX → State → Prop} {AX : Nat → Prop} (hr : vx_Run p l e R s m args below meth c H locs cells slots mc ms (F0 m pc ls st0) rest (va_Qi post B A1 a) (vx_X px BX AX) free) (hS : va_S A0 H0 H locs) (hA : ∀ q, q < H.size → A1 q → A0 q) (hf : ∀ q, free q → A0 q) (hAX : ∀ q, q < H.size → AX q → A0 q)
    (kx : ∀ (E : String) (ce : Cell) (q9 : Addr) (u : SX) (t : State) (H1 : Heap) (locs1 : List Loc), t.heap = H1 → s.vm.Alike t.vm → px u → BX E u t → H.size ≤ H1.size → (∀ q : Nat, q < H.size → ¬ AX q → H1[q]? = H[q]?) → va_S A0 H0 H1 locs1 → H1[q9]? = some ce → ce.vm = .none → s.vm.findClass E = some ce.cls → vx_W p l e R s m args below meth c H1 locs1 (cells + mc) (slots + ms) Q (F0 m pc ls rest) q9)
    (kk : ∀ (r : Int32) (u : S) (t : State) (H1 : Heap) (locs1 : List Loc), t.heap = H1 → s.vm.Alike t.vm → post r u → B u t → H.size ≤ H1.size → (∀ q : Nat, q < H.size → ¬ A1 q → H1[q]? = H[q]?) → va_S A0 H0 H1 locs1 → W p l e R s m args below meth c H1 locs1 (cells + mc) (slots + ms) Q (F0 m (pc + 3) ls (.int r :: rest))) : W p l e R s m args below meth c H locs cells slots Q (F0 m pc ls st0) := by
  intro T hT X
  rcases hr T hT X with ⟨v, st₀, t, T', L, h0, X', hL, e1, e2, ⟨⟨r, u, hv, hp, hb⟩, hF⟩, st⟩ | ⟨q, st₀, t, T', L, E, ce, h0, X', hL, e1, e2, ⟨u, hp, hb, hF⟩, hce, hcv, hcl, st⟩
  · cases hv
    obtain ⟨k1, k2, k3⟩ := vx_keep h0 e1 hS hA hf hL hF
    obtain ⟨t2, a1, b1⟩ := kk r u t T'.heap (locs ++ L) e1.symm (by rw [← e2]; exact X'.warmed.alike) hp hb k1 k2 k3 T' rfl X'
    exact ⟨t2, st t2 a1, b1⟩
  · obtain ⟨k1, k2, k3⟩ := vx_keep h0 e1 hS hAX hf hL hF
    obtain ⟨t2, a1, b1⟩ := kx E ce q u t T'.heap (locs ++ L) e1.symm (by rw [← e2]; exact X'.warmed.alike) hp hb k1 k2 k3 (by rw [e1]; exact hce) hcv hcl T' rfl X'
    exact ⟨t2, st.trans a1, b1⟩
theorem vx_calll {S SX : Type} {post : Int64 → S → Prop} {px : SX → Prop} {B : S → State → Prop} {BX : String → SX → State → Prop} {AX : Nat → Prop} (hr : vx_Run p l e R s m args below meth c H locs cells slots mc ms (F0 m pc ls st0) rest (va_Ql post B A1 a) (vx_X px BX AX) free) (hS : va_S A0 H0 H locs) (hA : ∀ q, q < H.size → A1 q → A0 q) (hf : ∀ q, free q → A0 q) (hAX : ∀ q, q < H.size → AX q → A0 q)
    (kx : ∀ (E : String) (ce : Cell) (q9 : Addr) (u : SX) (t : State) (H1 : Heap) (locs1 : List Loc), t.heap = H1 → s.vm.Alike t.vm → px u → BX E u t → H.size ≤ H1.size → (∀ q : Nat, q < H.size → ¬ AX q → H1[q]? = H[q]?) → va_S A0 H0 H1 locs1 → H1[q9]? = some ce → ce.vm = .none → s.vm.findClass E = some ce.cls → vx_W p l e R s m args below meth c H1 locs1 (cells + mc) (slots + ms) Q (F0 m pc ls rest) q9)
    (kk : ∀ (r : Int64) (u : S) (t : State) (H1 : Heap) (locs1 : List Loc), t.heap = H1 → s.vm.Alike t.vm → post r u → B u t → H.size ≤ H1.size → (∀ q : Nat, q < H.size → ¬ A1 q → H1[q]? = H[q]?) → va_S A0 H0 H1 locs1 → W p l e R s m args below meth c H1 locs1 (cells + mc) (slots + ms) Q (F0 m (pc + 3) ls (.long r :: rest))) : W p l e R s m args below meth c H locs cells slots Q (F0 m pc ls st0) := by
  intro T hT X
  rcases hr T hT X with ⟨v, st₀, t, T', L, h0, X', hL, e1, e2, ⟨⟨r, u, hv, hp, hb⟩, hF⟩, st⟩ | ⟨q, st₀, t, T', L, E, ce, h0, X', hL, e1, e2, ⟨u, hp, hb, hF⟩, hce, hcv, hcl, st⟩
  · cases hv
    obtain ⟨k1, k2, k3⟩ := vx_keep h0 e1 hS hA hf hL hF
    obtain ⟨t2, a1, b1⟩ := kk r u t T'.heap (locs ++ L) e1.symm (by rw [← e2]; exact X'.warmed.alike) hp hb k1 k2 k3 T' rfl X'
    exact ⟨t2, st t2 a1, b1⟩
  · obtain ⟨k1, k2, k3⟩ := vx_keep h0 e1 hS hAX hf hL hF
    obtain ⟨t2, a1, b1⟩ := kx E ce q u t T'.heap (locs ++ L) e1.symm (by rw [← e2]; exact X'.warmed.alike) hp hb k1 k2 k3 (by rw [e1]; exact hce) hcv hcl T' rfl X'
    exact ⟨t2, st.trans a1, b1⟩
theorem vx_callf {S SX : Type} {post : UInt32 → S → Prop} {px : SX → Prop} {B : S → State → Prop} {BX : String → SX → State → Prop} {AX : Nat → Prop} (hr : vx_Run p l e R s m args below meth c H locs cells slots mc ms (F0 m pc ls st0) rest (va_Qf post B A1 a) (vx_X px BX AX) free) (hS : va_S A0 H0 H locs) (hA : ∀ q, q < H.size → A1 q → A0 q) (hf : ∀ q, free q → A0 q) (hAX : ∀ q, q < H.size → AX q → A0 q)
    (kx : ∀ (E : String) (ce : Cell) (q9 : Addr) (u : SX) (t : State) (H1 : Heap) (locs1 : List Loc), t.heap = H1 → s.vm.Alike t.vm → px u → BX E u t → H.size ≤ H1.size → (∀ q : Nat, q < H.size → ¬ AX q → H1[q]? = H[q]?) → va_S A0 H0 H1 locs1 → H1[q9]? = some ce → ce.vm = .none → s.vm.findClass E = some ce.cls → vx_W p l e R s m args below meth c H1 locs1 (cells + mc) (slots + ms) Q (F0 m pc ls rest) q9)
    (kk : ∀ (r : UInt32) (u : S) (t : State) (H1 : Heap) (locs1 : List Loc), t.heap = H1 → s.vm.Alike t.vm → post r u → B u t → H.size ≤ H1.size → (∀ q : Nat, q < H.size → ¬ A1 q → H1[q]? = H[q]?) → va_S A0 H0 H1 locs1 → W p l e R s m args below meth c H1 locs1 (cells + mc) (slots + ms) Q (F0 m (pc + 3) ls (.float r :: rest))) : W p l e R s m args below meth c H locs cells slots Q (F0 m pc ls st0) := by
  intro T hT X
  rcases hr T hT X with ⟨v, st₀, t, T', L, h0, X', hL, e1, e2, ⟨⟨r, u, hv, hp, hb⟩, hF⟩, st⟩ | ⟨q, st₀, t, T', L, E, ce, h0, X', hL, e1, e2, ⟨u, hp, hb, hF⟩, hce, hcv, hcl, st⟩
  · cases hv
    obtain ⟨k1, k2, k3⟩ := vx_keep h0 e1 hS hA hf hL hF
    obtain ⟨t2, a1, b1⟩ := kk r u t T'.heap (locs ++ L) e1.symm (by rw [← e2]; exact X'.warmed.alike) hp hb k1 k2 k3 T' rfl X'
    exact ⟨t2, st t2 a1, b1⟩
  · obtain ⟨k1, k2, k3⟩ := vx_keep h0 e1 hS hAX hf hL hF
    obtain ⟨t2, a1, b1⟩ := kx E ce q u t T'.heap (locs ++ L) e1.symm (by rw [← e2]; exact X'.warmed.alike) hp hb k1 k2 k3 (by rw [e1]; exact hce) hcv hcl T' rfl X'
    exact ⟨t2, st.trans a1, b1⟩
theorem vx_calld {S SX : Type} {post : UInt64 → S → Prop} {px : SX → Prop} {B : S → State → Prop} {BX : String → SX → State → Prop} {AX : Nat → Prop} (hr : vx_Run p l e R s m args below meth c H locs cells slots mc ms (F0 m pc ls st0) rest (va_Qd post B A1 a) (vx_X px BX AX) free) (hS : va_S A0 H0 H locs) (hA : ∀ q, q < H.size → A1 q → A0 q) (hf : ∀ q, free q → A0 q) (hAX : ∀ q, q < H.size → AX q → A0 q)
    (kx : ∀ (E : String) (ce : Cell) (q9 : Addr) (u : SX) (t : State) (H1 : Heap) (locs1 : List Loc), t.heap = H1 → s.vm.Alike t.vm → px u → BX E u t → H.size ≤ H1.size → (∀ q : Nat, q < H.size → ¬ AX q → H1[q]? = H[q]?) → va_S A0 H0 H1 locs1 → H1[q9]? = some ce → ce.vm = .none → s.vm.findClass E = some ce.cls → vx_W p l e R s m args below meth c H1 locs1 (cells + mc) (slots + ms) Q (F0 m pc ls rest) q9)
    (kk : ∀ (r : UInt64) (u : S) (t : State) (H1 : Heap) (locs1 : List Loc), t.heap = H1 → s.vm.Alike t.vm → post r u → B u t → H.size ≤ H1.size → (∀ q : Nat, q < H.size → ¬ A1 q → H1[q]? = H[q]?) → va_S A0 H0 H1 locs1 → W p l e R s m args below meth c H1 locs1 (cells + mc) (slots + ms) Q (F0 m (pc + 3) ls (.double r :: rest))) : W p l e R s m args below meth c H locs cells slots Q (F0 m pc ls st0) := by
  intro T hT X
  rcases hr T hT X with ⟨v, st₀, t, T', L, h0, X', hL, e1, e2, ⟨⟨r, u, hv, hp, hb⟩, hF⟩, st⟩ | ⟨q, st₀, t, T', L, E, ce, h0, X', hL, e1, e2, ⟨u, hp, hb, hF⟩, hce, hcv, hcl, st⟩
  · cases hv
    obtain ⟨k1, k2, k3⟩ := vx_keep h0 e1 hS hA hf hL hF
    obtain ⟨t2, a1, b1⟩ := kk r u t T'.heap (locs ++ L) e1.symm (by rw [← e2]; exact X'.warmed.alike) hp hb k1 k2 k3 T' rfl X'
    exact ⟨t2, st t2 a1, b1⟩
  · obtain ⟨k1, k2, k3⟩ := vx_keep h0 e1 hS hAX hf hL hF
    obtain ⟨t2, a1, b1⟩ := kx E ce q u t T'.heap (locs ++ L) e1.symm (by rw [← e2]; exact X'.warmed.alike) hp hb k1 k2 k3 (by rw [e1]; exact hce) hcv hcl T' rfl X'
    exact ⟨t2, st.trans a1, b1⟩
theorem vx_callv {S SX : Type} {post : S → Prop} {px : SX → Prop} {B : S → State → Prop} {BX : String → SX → State → Prop} {AX : Nat → Prop} (hr : vx_Run p l e R s m args below meth c H locs cells slots mc ms (F0 m pc ls st0) rest (va_Qv post B A1 a) (vx_X px BX AX) free) (hS : va_S A0 H0 H locs) (hA : ∀ q, q < H.size → A1 q → A0 q) (hf : ∀ q, free q → A0 q) (hAX : ∀ q, q < H.size → AX q → A0 q)
    (kx : ∀ (E : String) (ce : Cell) (q9 : Addr) (u : SX) (t : State) (H1 : Heap) (locs1 : List Loc), t.heap = H1 → s.vm.Alike t.vm → px u → BX E u t → H.size ≤ H1.size → (∀ q : Nat, q < H.size → ¬ AX q → H1[q]? = H[q]?) → va_S A0 H0 H1 locs1 → H1[q9]? = some ce → ce.vm = .none → s.vm.findClass E = some ce.cls → vx_W p l e R s m args below meth c H1 locs1 (cells + mc) (slots + ms) Q (F0 m pc ls rest) q9)
    (kk : ∀ (u : S) (t : State) (H1 : Heap) (locs1 : List Loc), t.heap = H1 → s.vm.Alike t.vm → post u → B u t → H.size ≤ H1.size → (∀ q : Nat, q < H.size → ¬ A1 q → H1[q]? = H[q]?) → va_S A0 H0 H1 locs1 → W p l e R s m args below meth c H1 locs1 (cells + mc) (slots + ms) Q (F0 m (pc + 3) ls (rest))) : W p l e R s m args below meth c H locs cells slots Q (F0 m pc ls st0) := by
  intro T hT X
  rcases hr T hT X with ⟨v, st₀, t, T', L, h0, X', hL, e1, e2, ⟨⟨u, hv, hp, hb⟩, hF⟩, st⟩ | ⟨q, st₀, t, T', L, E, ce, h0, X', hL, e1, e2, ⟨u, hp, hb, hF⟩, hce, hcv, hcl, st⟩
  · cases hv
    obtain ⟨k1, k2, k3⟩ := vx_keep h0 e1 hS hA hf hL hF
    obtain ⟨t2, a1, b1⟩ := kk u t T'.heap (locs ++ L) e1.symm (by rw [← e2]; exact X'.warmed.alike) hp hb k1 k2 k3 T' rfl X'
    exact ⟨t2, st t2 a1, b1⟩
  · obtain ⟨k1, k2, k3⟩ := vx_keep h0 e1 hS hAX hf hL hF
    obtain ⟨t2, a1, b1⟩ := kx E ce q u t T'.heap (locs ++ L) e1.symm (by rw [← e2]; exact X'.warmed.alike) hp hb k1 k2 k3 (by rw [e1]; exact hce) hcv hcl T' rfl X'
    exact ⟨t2, st.trans a1, b1⟩
/-- caught by the row x of this method's table; the rows ahead don't take it -/
theorem vx_catch {own name : String} {E : String} {ce : Cell} {q : Addr} (hown : s.vm.findClass own = some m.cls) (pre : List ExceptionTableEntry) (x : ExceptionTableEntry) (suf : List ExceptionTableEntry) (hsplit : c.exceptionTable.toList = pre ++ x :: suf)
    (hpass : ∀ z ∈ pre, covers z pc = false ∨ (z.catchType ≠ 0 ∧ ∃ nm : String, (Cond.classLink own z.catchType nm).before args s = true ∧ va_Nc E nm s)) (hx : covers x pc = true) (h0 : x.catchType ≠ 0)
    (hlink : (Cond.classLink own x.catchType name).before args s = true) (hcast : (Cond.castable E name).before args s = true) (hcell : H[q]? = some ce) (hv : ce.vm = .none) (hcl : s.vm.findClass E = some ce.cls)
    (kk : W p l e R s m args below meth c H locs cells slots Q (F0 m x.handlerPc ls [.ref q])) : vx_W p l e R s m args below meth c H locs cells slots Q (F0 m pc ls rest) q := by
  intro T hT X
  have hpl : e.platform.magicAccessors = ({} : Platform).magicAccessors := by rw [X.admits.platform]
  obtain ⟨c3, c4, hc3, hc4, hasg⟩ := Cond.castable_spec hcast
  cases Option.some.inj (hc3.symm.trans hcl)
  obtain ⟨c5, hc5, hcl5⟩ := Cond.classLink_spec hown hlink e.platform hpl
  cases Option.some.inj (hc4.symm.trans hc5)
  obtain ⟨vm', X', st⟩ := x_caught X q (g := F0 m pc ls rest) rfl (Steps.refl _) (by rw [hT]; exact hcell) (by rw [hv]; rfl) (by obtain ⟨k9, h9, -⟩ := Vm.findClass_spec hcl; exact ⟨k9, h9⟩) pre x suf hsplit
    (fun z hz => by
      rcases hpass z hz with h | ⟨hz0, nm, hl1, hn1⟩
      · exact Or.inl h
      · obtain ⟨c6, hc6, hcl6⟩ := Cond.classLink_spec hown hl1 e.platform hpl
        obtain ⟨a8, b8, h1, h2, h3⟩ := hn1
        cases Option.some.inj (h1.symm.trans hcl)
        cases Option.some.inj (h2.symm.trans hc6)
        exact Or.inr ⟨hz0, _, hcl6, h3⟩) hx ⟨h0, c4, hcl5, hasg⟩
  obtain ⟨t, a1, b1⟩ := kk (T.setVm vm') hT X'
  exact ⟨t, st.trans a1, b1⟩
end Rows
section Ends
variable {p : Program} {l : Launch} {e : Env} {R : Room} {s : State} {m : MethodId} {args : Array Value} {below : List Frame} {meth : Method} {c : Code} {H : Heap} {locs : List Loc} {cells slots : Nat} {Q : State → Prop}
variable {mc ms : Nat} {free : Addr → Prop} {A0 A1 : Nat → Prop} {H0 : Heap} {a : Array Value} {ls : Array Slot} {st0 rest : List Value}
variable {Qc : Array Value → State → Outcome → State → Prop} {XC : String → State → State → Prop}
/-- what a body that may throw owes at its end -/
def vx_MQ (below : List Frame) (Qc : Array Value → State → Outcome → State → Prop) (XC : String → State → State → Prop) (a : Array Value) (s : State) (mc ms : Nat) (free : Addr → Prop) : State → Prop := fun t =>
  ∃ o, t.status = .running ∧ Ended t below o ∧ vx_Q Qc XC mc ms free a s o t
theorem vx_ret {g : JFrame} {mc ms : Nat} (k : W p l e R s m args below meth c H locs cells slots (MQ below Qc args s mc ms free) g) : W p l e R s m args below meth c H locs cells slots (vx_MQ below Qc XC args s mc ms free) g := by
  intro T hT X
  obtain ⟨t, a1, o, b1, b2, b3, b4⟩ := k T hT X
  exact ⟨t, a1, o, b1, b2, Or.inl ⟨b3, b4⟩⟩
/-- not caught here: it goes on to the caller -/
theorem vx_widen {g : JFrame} {q : Addr} {k n : Nat} (h1 : cells ≤ k) (h2 : slots ≤ n) (kk : vx_W p l e R s m args below meth c H locs k n Q g q) : vx_W p l e R s m args below meth c H locs cells slots Q g q := fun T hT X => kk T hT (stand_widen X h1 h2)
theorem vx_out {pc : Nat} {E : String} {ce : Cell} {q : Addr} {mc ms : Nat} (hout : ∀ x ∈ c.exceptionTable.toList, covers x pc = false) (hlocks : meth.locks = false) (hcell : H[q]? = some ce) (hv : ce.vm = .none) (hcl : s.vm.findClass E = some ce.cls)
    (hx : ∀ t : State, t.heap = H → s.vm.Alike t.vm → XC E s t) (hf : ∀ z ∈ locs, free z.base) (hc : cells ≤ mc) (hs : slots ≤ ms) :
    vx_W p l e R s m args below meth c H locs cells slots (vx_MQ below Qc XC args s mc ms free) (F0 m pc ls rest) q := by
  intro T hT X
  obtain ⟨st1, hrun, hend, hW, hsm⟩ := X.leaveThrown q (g := F0 m pc ls rest) rfl rfl rfl hout hlocks
  have hcell9 : (T.setFrames (.throwing q :: below)).heap[q]? = some ce := by
    show T.heap[q]? = some ce
    rw [hT]; exact hcell
  exact ⟨_, st1, .threw q, hrun, hend, Or.inr ⟨q, rfl, E, ce, locs, hx _ hT hW.alike, hcell9, hv, hcl, hW, hsm.mono hc hs, hf⟩⟩
theorem vx_frame {U : State} {k n : Nat} (h : s.sameButNew ({ U with vm := s.vm } : State) locs k n) : s.heap.size ≤ U.heap.size ∧ ∀ q : Nat, q < s.heap.size → (∀ z ∈ locs, z.base ≠ q) → U.heap[q]? = s.heap[q]? := by
  obtain ⟨-, h2, -, -, -, h6⟩ := h
  refine ⟨h2, fun q hq hz => ?_⟩
  obtain ⟨c9, e1, e2, e3, e4⟩ := h6 q _ (Array.getElem?_eq_getElem hq)
  have hs : c9.slots = (s.heap[q]).slots := Array.ext_getElem? fun i => e4 i fun hm => hz _ hm rfl
  have h9 : c9 = s.heap[q] := by
    rw [hs] at e2
    exact e2
  have e5 : U.heap[q]? = some c9 := e1
  rw [e5, h9, Array.getElem?_eq_getElem hq]
/-- the words of a throw but the four that speak of the heap -/
def vx_no (w : Cond) : Bool := decide (w ≠ .isRef (.static Bundle.tN "UNASSIGNED_STACK" Bundle.steD)) && decide (w ≠ .isRef (.static Bundle.tN "SUPPRESSED_SENTINEL" Bundle.listD)) && decide (w ≠ .laysStatic Bundle.tN "UNASSIGNED_STACK" Bundle.steD) && decide (w ≠ .laysStatic Bundle.tN "SUPPRESSED_SENTINEL" Bundle.listD)
def vx_at0 (own : String) (ic : Nat) (X : String) (names : List String) : List Cond := (Bundle.ownAtoms0 own ic X names).filter vx_no
def vx_atS (own : String) (ic : Nat) (X : String) (names : List String) : List Cond := (Bundle.ownAtoms own ic X names).filter vx_no
/-- a word that the tables alone decide, or a good one -/
def vx_ot (w : Cond) : Bool := w.onTables || goodWord w
theorem vx_ot_at {args a' : Array Value} {s U : State} {w : Cond} (hW : s.WarmedH U.vm) (hvm : s.vm = U.vm) (hg : vx_ot w = true) (h : w.before args s = true) : w.before a' U = true := by
  simp only [vx_ot, Bool.or_eq_true] at hg
  rcases hg with hg | hg
  · exact va_tabs hg hvm h
  · exact word_at hW (good_of_word hg) h
/-- a list's words: the good ones out of the method's own list, the others by premises of their own -/
theorem vx_hat {args : Array Value} {s : State} {L B : List Cond} (h1 : ∀ w ∈ L.filter goodWord, w.before args s = true) (h2 : ∀ w ∈ L.filter (fun w => !goodWord w), w ∈ B) (h3 : ∀ w ∈ B, w.before args s = true) : ∀ w ∈ L, w.before args s = true := by
  intro w hw
  by_cases g : goodWord w = true
  · exact h1 w (List.mem_filter.mpr ⟨hw, g⟩)
  · refine h3 w (h2 w (List.mem_filter.mpr ⟨hw, ?_⟩))
    show (!goodWord w) = true
    cases hgw : goodWord w
    · rfl
    · exact absurd hgw g
theorem vx_c {args : Array Value} {s : State} {w : Cond} {B : List Cond} (h : w.before args s = true) (t : ∀ w ∈ B, w.before args s = true) : ∀ w' ∈ w :: B, w'.before args s = true := fun w' h' => (List.mem_cons.mp h').elim (fun e => by rw [e]; exact h) (t w')
theorem vx_n {args : Array Value} {s : State} : ∀ w ∈ ([] : List Cond), w.before args s = true := fun _ h => nomatch h
theorem vx_own {args : Array Value} {s : State} {L : List Cond} (h1 : ∀ w ∈ L.filter vx_no, w.before args s = true)
    (hU : (Cond.isRef (.static Bundle.tN "UNASSIGNED_STACK" Bundle.steD)).before args s = true) (hN : (Cond.isRef (.static Bundle.tN "SUPPRESSED_SENTINEL" Bundle.listD)).before args s = true)
    (lU : (Cond.laysStatic Bundle.tN "UNASSIGNED_STACK" Bundle.steD).before args s = true) (lN : (Cond.laysStatic Bundle.tN "SUPPRESSED_SENTINEL" Bundle.listD).before args s = true) : ∀ w ∈ L, w.before args s = true := by
  intro w hw
  by_cases e1 : w = .isRef (.static Bundle.tN "UNASSIGNED_STACK" Bundle.steD)
  · rw [e1]; exact hU
  · by_cases e2 : w = .isRef (.static Bundle.tN "SUPPRESSED_SENTINEL" Bundle.listD)
    · rw [e2]; exact hN
    · by_cases e3 : w = .laysStatic Bundle.tN "UNASSIGNED_STACK" Bundle.steD
      · rw [e3]; exact lU
      · by_cases e4 : w = .laysStatic Bundle.tN "SUPPRESSED_SENTINEL" Bundle.listD
        · rw [e4]; exact lN
        · exact h1 w (List.mem_filter.mpr ⟨hw, by unfold vx_no; rw [decide_eq_true e1, decide_eq_true e2, decide_eq_true e3, decide_eq_true e4]; rfl⟩)
/-- where a static field lies, its class's statics cell in H -/
def vx_L (C n d : String) (A : Nat → Prop) (U : State) (H : Heap) : Prop := ∃ (c : ClassId) (k : Class) (i : Nat) (f : Field) (a : Nat) (cell : Cell), U.vm.findClass C = some c ∧ U.fieldFound? C n d = some (c, k, i, f) ∧ f.isStatic = true ∧ k.statics = some a ∧ H[a]? = some cell ∧ cell.vm.isStatics = true ∧ cell.cls = c ∧ f.slot < cell.slots.size ∧ k.staticTypes[f.slot]? = some f.type ∧ ¬ A a
theorem vx_L.moved {C n d : String} {A : Nat → Prop} {u U : State} {H : Heap} (hvm : u.vm.Alike U.vm) (h : vx_L C n d A u H) : vx_L C n d A U H := by
  obtain ⟨c, k, i, f, a, cell, h1, h2, h3, h4, h5, h6, h7, h8, h9, h10⟩ := h
  obtain ⟨k', hi', he⟩ := State.fieldFound?_setVm hvm h2
  exact ⟨c, k', i, f, a, cell, by rw [hvm.findClass]; exact h1, hi', h3, by rw [he]; exact h4, h5, h6, h7, h8, by rw [he]; exact h9, h10⟩
theorem vx_L.kept {C n d : String} {A : Nat → Prop} {U : State} {H H1 : Heap} (h : vx_L C n d A U H) (hq : ∀ a : Nat, a < H.size → ¬ A a → H1[a]? = H[a]?) : vx_L C n d A U H1 := by
  obtain ⟨c, k, i, f, a, cell, h1, h2, h3, h4, h5, h6, h7, h8, h9, h10⟩ := h
  exact ⟨c, k, i, f, a, cell, h1, h2, h3, h4, by rw [hq a (Array.getElem?_eq_some_iff.mp h5).1 h10]; exact h5, h6, h7, h8, h9, h10⟩
theorem vx_L.narrow {C n d : String} {A B : Nat → Prop} {U : State} {H : Heap} (h : vx_L C n d A U H) (hAB : ∀ q, B q → A q) : vx_L C n d B U H := by
  obtain ⟨c, k, i, f, a, cell, h1, h2, h3, h4, h5, h6, h7, h8, h9, h10⟩ := h
  exact ⟨c, k, i, f, a, cell, h1, h2, h3, h4, h5, h6, h7, h8, h9, fun z => h10 (hAB _ z)⟩
theorem vx_L.word {C n d : String} {A : Nat → Prop} {s : State} {args : Array Value} (h : vx_L C n d A s s.heap) : (Cond.laysStatic C n d).before args s = true := by
  obtain ⟨c, k, i, f, a, cell, h1, h2, h3, h4, h5, h6, h7, h8, h9, -⟩ := h
  show (Cond.laysStatic C n d).holds args s none s [] = true
  exact Cond.laysStatic_of h1 h2 h3 h4 h5 h6 h7 h8 h9
/-- .. and what it holds: null or some reference -/
def vx_Zq (C n d : String) (A : Nat → Prop) (U : State) (H : Heap) : Prop := va_Zq C n d A U H ∧ vx_L C n d A U H
theorem vx_Zq.moved {C n d : String} {A : Nat → Prop} {u U : State} {H : Heap} (hvm : u.vm.Alike U.vm) (h : vx_Zq C n d A u H) : vx_Zq C n d A U H := ⟨va_Zq.moved hvm h.1, vx_L.moved hvm h.2⟩
theorem vx_Zq.kept {C n d : String} {A : Nat → Prop} {U : State} {H H1 : Heap} (h : vx_Zq C n d A U H) (hq : ∀ a : Nat, a < H.size → ¬ A a → H1[a]? = H[a]?) : vx_Zq C n d A U H1 := ⟨va_Zq.kept h.1 hq, vx_L.kept h.2 hq⟩
theorem vx_Zq.narrow {C n d : String} {A B : Nat → Prop} {U : State} {H : Heap} (h : vx_Zq C n d A U H) (hAB : ∀ q, B q → A q) : vx_Zq C n d B U H := ⟨va_Zq.narrow h.1 hAB, vx_L.narrow h.2 hAB⟩
theorem vx_Zqof {args : Array Value} {s : State} {C n d : String} {A : Nat → Prop} (hl : (Cond.laysStatic C n d).before args s = true) (hini : (Cond.initialized C).before args s = true) (h : (Cond.isRef (.static C n d)).before args s = true) (hA : ∀ a : Nat, a < s.heap.size → ¬ A a) : vx_Zq C n d A s s.heap := by
  refine ⟨va_Zqof hl hini h hA, ?_⟩
  obtain ⟨c, k, i, f, a, cell, h1, h2, h3, h4, h5, h6, h7, h8, h9⟩ := Cond.laysStatic_spec hl
  exact ⟨c, k, i, f, a, cell, h1, h2, h3, h4, h5, h6, h7, h8, h9, hA a (Array.getElem?_eq_some_iff.mp h5).1⟩
theorem vx_isRef {C n d : String} {v : Value} {A : Nat → Prop} {s : State} {args : Array Value} (h : va_Z C n d v A s s.heap) (hv : v.isRef = true) : (Cond.isRef (.static C n d)).before args s = true := by
  obtain ⟨cf, kf, fi, f, a, cell, h1, h2, h3, h4, h5, h6, h7, -⟩ := h
  have he : (Term.static C n d).eval args s none [] s = some v := by
    simp [Term.eval, State.fieldNamed?, h1, h2, h4, h5, h6, h7]
  simp only [Cond.before, Cond.holds, Cond.value, he]
  cases v <;> simp_all [Value.isRef]
theorem vx_isRefq {C n d : String} {A : Nat → Prop} {s : State} {args : Array Value} (h : va_Zq C n d A s s.heap) : (Cond.isRef (.static C n d)).before args s = true := by
  rcases h with h | ⟨t, h⟩
  · exact vx_isRef h rfl
  · exact vx_isRef h rfl
/-- the same frame, seen from here: as if the method were called anew in this heap -/
theorem vx_rebase {T : State} (X : Stand p l e R s m args below meth c T locs cells slots) {R' : Room} (hf : R'.frames ≤ R.frames) (hl : R'.locals ≤ R.locals) (hc : cells + R'.cells ≤ R.cells) (hs : slots + R'.slots ≤ R.slots) :
    Stand p l e R' ((T.setVm s.vm).setFrames (.invoking m args :: below)) m args below meth c T [] 0 0 := by
  have htop : (T.setVm s.vm).topJava?.isSome := X.here.top
  have hF : ((T.setVm s.vm).setFrames (.invoking m args :: below)).frames = .invoking m args :: below := State.frames_setFrames _ (State.cur_lt_of_top htop)
  obtain ⟨g₀, hg0⟩ := Option.isSome_iff_exists.mp htop
  obtain ⟨r, hr⟩ := State.topJava?_eq_some.mp hg0
  have hl9 : e.platform.stackLimits (T.setVm s.vm).me = e.platform.stackLimits s.me := X.limits
  have hb9 : (T.setVm s.vm).me.stackBytes = s.me.stackBytes := X.bytes
  refine ⟨X.admits, X.cas, X.clock, hF, ?_, X.hears, X.method, X.code, X.here, X.tail, X.warmed, ?_, ?_, ?_⟩
  · have h := X.room
    have hU : ((T.setVm s.vm).setFrames (.invoking m args :: below)).localsInUse = s.localsInUse := by
      rw [State.localsInUse_invoking hF (meth := meth) (c := c) X.method X.code, State.localsInUse_invoking X.frames X.method X.code]
    simp only [State.hasRoom, Bool.and_eq_true, decide_eq_true_eq] at h ⊢
    obtain ⟨⟨⟨⟨h1, h2, h3, h4, h5, h6⟩, h7⟩, h8⟩, h9⟩ := h
    rw [X.frames, List.length_cons] at h2 h3
    have q1 := X.heapSize
    have q2 := X.used
    simp only [hF, hU, List.length_cons, State.stackLimits_setFrames, State.stackBytes_setFrames, hl9, hb9]
    refine ⟨⟨⟨⟨by omega, by omega, by omega, by omega, by omega, h6⟩, ?_⟩, ?_⟩, X.book⟩
    · show T.heap.size + R'.cells ≤ e.platform.maxCells
      omega
    · show T.slotsUsed + R'.slots ≤ e.platform.maxSlots
      omega
  · rw [State.stackLimits_setFrames]; rfl
  · rw [State.stackBytes_setFrames]; rfl
  · refine ⟨?_, Nat.le_refl _, Nat.le_refl _, ?_, ?_, fun a c9 h9 => ⟨c9, h9, rfl, rfl, fun _ _ => rfl⟩⟩
    · obtain ⟨t, ht, -⟩ := State.frames_cons hr
      show T.setVm s.vm = { ((T.setVm s.vm).setFrames (.invoking m args :: below)).setFrames (T.setVm s.vm).frames with heap := T.heap, slotsUsed := T.slotsUsed }
      rw [State.setFrames_setFrames, State.setFrames_self ht]
      rfl
    · show T.slotsUsed = T.slotsUsed + ((T.heap.toList.drop T.heap.size).map (·.slots.size)).sum
      rw [List.drop_eq_nil_of_le (Nat.le_of_eq Array.length_toList)]
      rfl
    · show ((T.heap.toList.drop T.heap.size).map (·.slots.size)).sum ≤ 0
      rw [List.drop_eq_nil_of_le (Nat.le_of_eq Array.length_toList)]
      exact Nat.le_refl _
/-- 'throw new E()': new; dup; invokespecial; athrow -/
theorem vx_throw0 {cc : ByteArray} {pc : Nat} (hexec : p.tables.exec = Jvm.exec) (hb : c.code = cc) (hl : l.stackTraces = false) {own cls : String} {names : List String} {ik ic mc ms : Nat} {A : Nat → Prop}
    (hown : s.vm.findClass own = some m.cls) (hcls : Bundle.fit cls = true) (hnames : ∀ n ∈ names, Bundle.fit n = true)
    (hk : (Cond.classLink own ik cls).before args s = true) (hini : (Cond.initialized cls).before args s = true) (hat : ∀ w ∈ vx_at0 own ic cls names, w.before args s = true)
    (hgood : ∀ w ∈ Cond.classLink own ik cls :: Cond.initialized cls :: vx_at0 own ic cls names, vx_ot w = true)
    (hU : vx_Zq Bundle.tN "UNASSIGNED_STACK" Bundle.steD A s s.heap) (hN : vx_Zq Bundle.tN "SUPPRESSED_SENTINEL" Bundle.listD A s s.heap) (hS : va_S A s.heap H locs) (hsize : ls.size = c.maxLocals)
    (d0 : decode cc pc = .ok (.new ik, 3)) (d3 : decode cc (pc + 3) = .ok (.dup, 1)) (d4 : decode cc (pc + 4) = .ok (.invokespecial ic, 3)) (d7 : decode cc (pc + 7) = .ok (.athrow, 1))
    (hout : ∀ x ∈ c.exceptionTable.toList, covers x (pc + 7) = false)
    (hRframes : names.length + 3 < R.frames) (hRlocals : (rest.map fun v => v.category).sum + (13 * (names.length + 1) + 42) ≤ R.locals) (hRcells : cells + 1 ≤ R.cells) (hRslots : slots + 6 ≤ R.slots) (hlocks : meth.locks = false)
    (hx : ∀ t : State, s.vm.Alike t.vm → H.size ≤ t.heap.size → (∀ q : Nat, q < H.size → t.heap[q]? = H[q]?) → XC cls s t)
    (hf : ∀ z ∈ locs, free z.base) (hc : cells + 1 ≤ mc) (hs : slots + 6 ≤ ms) :
    W p l e R s m args below meth c H locs cells slots (vx_MQ below Qc XC args s mc ms free) (F0 m pc ls rest) := by
  intro T hT X
  have htr : e.platform.stackTraces = false := (show e.platform.stackTraces = l.stackTraces by rw [X.admits.platform]).trans hl
  have Y := vx_rebase X (R' := { frames := R.frames, locals := R.locals, cells := 1, slots := 6 }) (Nat.le_refl _) (Nat.le_refl _) hRcells hRslots
  obtain ⟨s', hA⟩ : ∃ z, z = (T.setVm s.vm).setFrames (.invoking m args :: below) := ⟨_, rfl⟩
  rw [← hA] at Y
  have hvm : s'.vm = s.vm := by rw [hA]; rfl
  have hhp : s'.heap = H := by rw [hA]; exact hT
  have hW0 : s.WarmedH s'.vm := by rw [hvm]; exact State.WarmedH.refl s
  have hat' : ∀ w ∈ vx_at0 own ic cls names, w.before args s' = true := fun w hw => vx_ot_at hW0 hvm.symm (hgood w (List.mem_cons_of_mem _ (List.mem_cons_of_mem _ hw))) (hat w hw)
  have hk' : (Cond.classLink own ik cls).before args s' = true := vx_ot_at hW0 hvm.symm (hgood _ List.mem_cons_self) hk
  have hini' : (Cond.initialized cls).before args s' = true := vx_ot_at hW0 hvm.symm (hgood _ (List.mem_cons_of_mem _ List.mem_cons_self)) hini
  have hU' : vx_Zq Bundle.tN "UNASSIGNED_STACK" Bundle.steD A s' s'.heap := by rw [hhp]; exact vx_Zq.moved hW0.alike (hU.kept hS.2.1)
  have hN' : vx_Zq Bundle.tN "SUPPRESSED_SENTINEL" Bundle.listD A s' s'.heap := by rw [hhp]; exact vx_Zq.moved hW0.alike (hN.kept hS.2.1)
  have h : ∀ w ∈ Bundle.ownAtoms0 own ic cls names, w.before args s' = true := vx_own hat' (vx_isRefq hU'.1) (vx_isRefq hN'.1) hU'.2.word hN'.2.word
  have hown' : s'.vm.findClass own = some m.cls := by rw [hvm]; exact hown
  have hins : (Cond.instantiable cls 6).before args s' = true := h _ (by simp [Bundle.ownAtoms0])
  obtain ⟨vm₁, cX, kX, hfX, hkX, -, -, X₁, st1⟩ := Y.newCold hexec (own := own) (C := cls) (index := ik) (n := 6) hown' hk' hins hini'
    (g := F0 m pc ls rest) rfl (by rw [hb]; exact d0) (Nat.le_refl _) (Nat.le_refl _)
  generalize hT1 : (T.setVm vm₁).pushCell { cls := cX, slots := kX.instanceTypes.map defaultValue, vm := .none } = T1 at X₁ st1
  have hcat : (Value.ref T.heap.size).category = 1 := rfl
  have hcellA : T1.heap[T.heap.size]? = some (freshCell cX kX) := by rw [← hT1]; exact State.heap_pushCell_size _ _
  have d3' : decode c.code (pc + 3) = .ok (.dup, 1) := by rw [hb]; exact d3
  obtain ⟨U, hsteps, hrun, hend, hW, hsame, ce, hce, hO⟩ := X₁.ctorThrow0 hexec htr (own := own) (cls := cls) (names := names) (ic := ic) hown' hcls hnames h (fun x hx => nomatch hx) hfX hkX hcellA (by rw [hhp, hT]; exact Nat.le_refl _)
    (g := { method := m, pc := pc + 4, locals := ls, stack := .ref T.heap.size :: .ref T.heap.size :: rest, locked := none }) rfl hsize rfl rfl (rest := rest) rfl
    (by rw [hb]; exact d4) (by rw [hb]; exact d7) hout hRframes (by simp only [List.map_cons, List.sum_cons, hcat]; omega) hlocks
  obtain ⟨f1, f2⟩ := vx_frame hsame
  rw [hhp] at f1 f2
  have hWs : s.WarmedH U.vm := State.WarmedH.trans hW0 hW
  have hcl : s.vm.findClass cls = some ce.cls := by
    have h9 := hO.cls
    rw [hvm] at h9
    exact h9
  have hall : s.sameButNew ({ U with vm := s.vm } : State) locs mc ms := by
    subst hA
    obtain ⟨e1, e2⟩ := hsame
    rw [State.setFrames_setFrames] at e1
    have h2 : (T.setVm s.vm).sameButNew ({ U with vm := s.vm } : State) [] (0 + 1) (0 + 6) := ⟨e1, e2⟩
    have h3 := X.same.trans h2
    rw [List.append_nil] at h3
    exact h3.mono hc hs
  refine ⟨U, ?_, .threw T.heap.size, hrun, hend, Or.inr ⟨T.heap.size, rfl, cls, ce, locs, hx U hWs.alike f1 (fun q hq => f2 q hq (fun z hz => nomatch hz)), hce, hO.vm, hcl, hWs, hall, hf⟩⟩
  refine st1 _ ?_
  show Steps p.tables e below (T1.setTop { method := m, pc := pc + 3, locals := ls, stack := .ref T.heap.size :: rest, locked := none }) _
  jvm_step X₁.here [X₁.here.top, hexec, d3', Value.category]
  exact hsteps
/-- 'throw new E("text")': new; dup; ldc; invokespecial; athrow -/
theorem vx_throwS {cc : ByteArray} {pc : Nat} (hexec : p.tables.exec = Jvm.exec) (hb : c.code = cc) (hl : l.stackTraces = false) {own cls text : String} {names : List String} {ik is ic mc ms sa : Nat} {A : Nat → Prop}
    (hown : s.vm.findClass own = some m.cls) (hcls : Bundle.fit cls = true) (hnames : ∀ n ∈ names, Bundle.fit n = true)
    (hk : (Cond.classLink own ik cls).before args s = true) (hini : (Cond.initialized cls).before args s = true) (hstr : vk_R own is text sa s) (hat : ∀ w ∈ vx_atS own ic cls names, w.before args s = true)
    (hgood : ∀ w ∈ Cond.classLink own ik cls :: Cond.initialized cls :: vx_atS own ic cls names, vx_ot w = true)
    (hU : vx_Zq Bundle.tN "UNASSIGNED_STACK" Bundle.steD A s s.heap) (hN : vx_Zq Bundle.tN "SUPPRESSED_SENTINEL" Bundle.listD A s s.heap) (hS : va_S A s.heap H locs) (hsize : ls.size = c.maxLocals)
    (d0 : decode cc pc = .ok (.new ik, 3)) (d3 : decode cc (pc + 3) = .ok (.dup, 1)) (d4 : decode cc (pc + 4) = .ok (.ldc is, 2)) (d6 : decode cc (pc + 6) = .ok (.invokespecial ic, 3)) (d9 : decode cc (pc + 9) = .ok (.athrow, 1))
    (hout : ∀ x ∈ c.exceptionTable.toList, covers x (pc + 9) = false)
    (hRframes : names.length + 3 < R.frames) (hRlocals : (rest.map fun v => v.category).sum + (13 * (names.length + 1) + 43) ≤ R.locals) (hRcells : cells + 1 ≤ R.cells) (hRslots : slots + 6 ≤ R.slots) (hlocks : meth.locks = false)
    (hx : ∀ t : State, s.vm.Alike t.vm → H.size ≤ t.heap.size → (∀ q : Nat, q < H.size → t.heap[q]? = H[q]?) → XC cls s t)
    (hf : ∀ z ∈ locs, free z.base) (hc : cells + 1 ≤ mc) (hs : slots + 6 ≤ ms) :
    W p l e R s m args below meth c H locs cells slots (vx_MQ below Qc XC args s mc ms free) (F0 m pc ls rest) := by
  intro T hT X
  have htr : e.platform.stackTraces = false := (show e.platform.stackTraces = l.stackTraces by rw [X.admits.platform]).trans hl
  have Y := vx_rebase X (R' := { frames := R.frames, locals := R.locals, cells := 1, slots := 6 }) (Nat.le_refl _) (Nat.le_refl _) hRcells hRslots
  obtain ⟨s', hA⟩ : ∃ z, z = (T.setVm s.vm).setFrames (.invoking m args :: below) := ⟨_, rfl⟩
  rw [← hA] at Y
  have hvm : s'.vm = s.vm := by rw [hA]; rfl
  have hhp : s'.heap = H := by rw [hA]; exact hT
  have hW0 : s.WarmedH s'.vm := by rw [hvm]; exact State.WarmedH.refl s
  have hat' : ∀ w ∈ vx_atS own ic cls names, w.before args s' = true := fun w hw => vx_ot_at hW0 hvm.symm (hgood w (List.mem_cons_of_mem _ (List.mem_cons_of_mem _ hw))) (hat w hw)
  have hk' : (Cond.classLink own ik cls).before args s' = true := vx_ot_at hW0 hvm.symm (hgood _ List.mem_cons_self) hk
  have hini' : (Cond.initialized cls).before args s' = true := vx_ot_at hW0 hvm.symm (hgood _ (List.mem_cons_of_mem _ List.mem_cons_self)) hini
  have hU' : vx_Zq Bundle.tN "UNASSIGNED_STACK" Bundle.steD A s' s'.heap := by rw [hhp]; exact vx_Zq.moved hW0.alike (hU.kept hS.2.1)
  have hN' : vx_Zq Bundle.tN "SUPPRESSED_SENTINEL" Bundle.listD A s' s'.heap := by rw [hhp]; exact vx_Zq.moved hW0.alike (hN.kept hS.2.1)
  have h : ∀ w ∈ Bundle.ownAtoms own ic cls names, w.before args s' = true := vx_own hat' (vx_isRefq hU'.1) (vx_isRefq hN'.1) hU'.2.word hN'.2.word
  have hown' : s'.vm.findClass own = some m.cls := by rw [hvm]; exact hown
  have hins : (Cond.instantiable cls 6).before args s' = true := h _ (by simp [Bundle.ownAtoms])
  obtain ⟨vm₁, cX, kX, hfX, hkX, -, -, X₁, st1⟩ := Y.newCold hexec (own := own) (C := cls) (index := ik) (n := 6) hown' hk' hins hini'
    (g := F0 m pc ls rest) rfl (by rw [hb]; exact d0) (Nat.le_refl _) (Nat.le_refl _)
  generalize hT1 : (T.setVm vm₁).pushCell { cls := cX, slots := kX.instanceTypes.map defaultValue, vm := .none } = T1 at X₁ st1
  have hcat : (Value.ref T.heap.size).category = 1 := rfl
  have hcellA : T1.heap[T.heap.size]? = some (freshCell cX kX) := by rw [← hT1]; exact State.heap_pushCell_size _ _
  have d3' : decode c.code (pc + 3) = .ok (.dup, 1) := by rw [hb]; exact d3
  have d4' : decode c.code (pc + 4) = .ok (.ldc is, 2) := by rw [hb]; exact d4
  have hstr' : vk_R own is text sa s' := vk_R.warm hW0 hstr
  obtain ⟨U, hsteps, hrun, hend, hW, hsame, ce, hce, hO⟩ := X₁.ctorThrowS hexec htr (own := own) (cls := cls) (names := names) (ic := ic) hown' hcls hnames h (fun x hx => nomatch hx) hfX hkX hcellA (by rw [hhp, hT]; exact Nat.le_refl _) (msg := .ref sa) rfl
    (g := { method := m, pc := pc + 6, locals := ls, stack := .ref sa :: .ref T.heap.size :: .ref T.heap.size :: rest, locked := none }) rfl hsize rfl rfl (rest := rest) rfl
    (by rw [hb]; exact d6) (by rw [hb]; exact d9) hout hRframes (by simp only [List.map_cons, List.sum_cons, hcat]; omega) hlocks
  obtain ⟨f1, f2⟩ := vx_frame hsame
  rw [hhp] at f1 f2
  have hWs : s.WarmedH U.vm := State.WarmedH.trans hW0 hW
  have hcl : s.vm.findClass cls = some ce.cls := by
    have h9 := hO.cls
    rw [hvm] at h9
    exact h9
  have hall : s.sameButNew ({ U with vm := s.vm } : State) locs mc ms := by
    subst hA
    obtain ⟨e1, e2⟩ := hsame
    rw [State.setFrames_setFrames] at e1
    have h2 : (T.setVm s.vm).sameButNew ({ U with vm := s.vm } : State) [] (0 + 1) (0 + 6) := ⟨e1, e2⟩
    have h3 := X.same.trans h2
    rw [List.append_nil] at h3
    exact h3.mono hc hs
  refine ⟨U, ?_, .threw T.heap.size, hrun, hend, Or.inr ⟨T.heap.size, rfl, cls, ce, locs, hx U hWs.alike f1 (fun q hq => f2 q hq (fun z hz => nomatch hz)), hce, hO.vm, hcl, hWs, hall, hf⟩⟩
  refine st1 _ ?_
  show Steps p.tables e below (T1.setTop { method := m, pc := pc + 3, locals := ls, stack := .ref T.heap.size :: rest, locked := none }) _
  jvm_step X₁.here [X₁.here.top, hexec, d3', Value.category]
  exact X₁.ldcString hexec (own := own) (text := text) (index := is) (a := sa) hown' hstr'.1 hstr'.2
    (g := { method := m, pc := pc + 4, locals := ls, stack := .ref T.heap.size :: .ref T.heap.size :: rest, locked := none }) rfl d4' _ hsteps
/-- 'throw new E("text")', the text by a wide index -/
theorem vx_throwSW {cc : ByteArray} {pc : Nat} (hexec : p.tables.exec = Jvm.exec) (hb : c.code = cc) (hl : l.stackTraces = false) {own cls text : String} {names : List String} {ik is ic mc ms sa : Nat} {A : Nat → Prop}
    (hown : s.vm.findClass own = some m.cls) (hcls : Bundle.fit cls = true) (hnames : ∀ n ∈ names, Bundle.fit n = true)
    (hk : (Cond.classLink own ik cls).before args s = true) (hini : (Cond.initialized cls).before args s = true) (hstr : vk_R own is text sa s) (hat : ∀ w ∈ vx_atS own ic cls names, w.before args s = true)
    (hgood : ∀ w ∈ Cond.classLink own ik cls :: Cond.initialized cls :: vx_atS own ic cls names, vx_ot w = true)
    (hU : vx_Zq Bundle.tN "UNASSIGNED_STACK" Bundle.steD A s s.heap) (hN : vx_Zq Bundle.tN "SUPPRESSED_SENTINEL" Bundle.listD A s s.heap) (hS : va_S A s.heap H locs) (hsize : ls.size = c.maxLocals)
    (d0 : decode cc pc = .ok (.new ik, 3)) (d3 : decode cc (pc + 3) = .ok (.dup, 1)) (d4 : decode cc (pc + 4) = .ok (.ldc_w is, 3)) (d7 : decode cc (pc + 7) = .ok (.invokespecial ic, 3)) (d10 : decode cc (pc + 10) = .ok (.athrow, 1))
    (hout : ∀ x ∈ c.exceptionTable.toList, covers x (pc + 10) = false)
    (hRframes : names.length + 3 < R.frames) (hRlocals : (rest.map fun v => v.category).sum + (13 * (names.length + 1) + 43) ≤ R.locals) (hRcells : cells + 1 ≤ R.cells) (hRslots : slots + 6 ≤ R.slots) (hlocks : meth.locks = false)
    (hx : ∀ t : State, s.vm.Alike t.vm → H.size ≤ t.heap.size → (∀ q : Nat, q < H.size → t.heap[q]? = H[q]?) → XC cls s t)
    (hf : ∀ z ∈ locs, free z.base) (hc : cells + 1 ≤ mc) (hs : slots + 6 ≤ ms) :
    W p l e R s m args below meth c H locs cells slots (vx_MQ below Qc XC args s mc ms free) (F0 m pc ls rest) := by
  intro T hT X
  have htr : e.platform.stackTraces = false := (show e.platform.stackTraces = l.stackTraces by rw [X.admits.platform]).trans hl
  have Y := vx_rebase X (R' := { frames := R.frames, locals := R.locals, cells := 1, slots := 6 }) (Nat.le_refl _) (Nat.le_refl _) hRcells hRslots
  obtain ⟨s', hA⟩ : ∃ z, z = (T.setVm s.vm).setFrames (.invoking m args :: below) := ⟨_, rfl⟩
  rw [← hA] at Y
  have hvm : s'.vm = s.vm := by rw [hA]; rfl
  have hhp : s'.heap = H := by rw [hA]; exact hT
  have hW0 : s.WarmedH s'.vm := by rw [hvm]; exact State.WarmedH.refl s
  have hat' : ∀ w ∈ vx_atS own ic cls names, w.before args s' = true := fun w hw => vx_ot_at hW0 hvm.symm (hgood w (List.mem_cons_of_mem _ (List.mem_cons_of_mem _ hw))) (hat w hw)
  have hk' : (Cond.classLink own ik cls).before args s' = true := vx_ot_at hW0 hvm.symm (hgood _ List.mem_cons_self) hk
  have hini' : (Cond.initialized cls).before args s' = true := vx_ot_at hW0 hvm.symm (hgood _ (List.mem_cons_of_mem _ List.mem_cons_self)) hini
  have hU' : vx_Zq Bundle.tN "UNASSIGNED_STACK" Bundle.steD A s' s'.heap := by rw [hhp]; exact vx_Zq.moved hW0.alike (hU.kept hS.2.1)
  have hN' : vx_Zq Bundle.tN "SUPPRESSED_SENTINEL" Bundle.listD A s' s'.heap := by rw [hhp]; exact vx_Zq.moved hW0.alike (hN.kept hS.2.1)
  have h : ∀ w ∈ Bundle.ownAtoms own ic cls names, w.before args s' = true := vx_own hat' (vx_isRefq hU'.1) (vx_isRefq hN'.1) hU'.2.word hN'.2.word
  have hown' : s'.vm.findClass own = some m.cls := by rw [hvm]; exact hown
  have hins : (Cond.instantiable cls 6).before args s' = true := h _ (by simp [Bundle.ownAtoms])
  obtain ⟨vm₁, cX, kX, hfX, hkX, -, -, X₁, st1⟩ := Y.newCold hexec (own := own) (C := cls) (index := ik) (n := 6) hown' hk' hins hini'
    (g := F0 m pc ls rest) rfl (by rw [hb]; exact d0) (Nat.le_refl _) (Nat.le_refl _)
  generalize hT1 : (T.setVm vm₁).pushCell { cls := cX, slots := kX.instanceTypes.map defaultValue, vm := .none } = T1 at X₁ st1
  have hcat : (Value.ref T.heap.size).category = 1 := rfl
  have hcellA : T1.heap[T.heap.size]? = some (freshCell cX kX) := by rw [← hT1]; exact State.heap_pushCell_size _ _
  have d3' : decode c.code (pc + 3) = .ok (.dup, 1) := by rw [hb]; exact d3
  have d4' : decode c.code (pc + 4) = .ok (.ldc_w is, 3) := by rw [hb]; exact d4
  have hstr' : vk_R own is text sa s' := vk_R.warm hW0 hstr
  obtain ⟨U, hsteps, hrun, hend, hW, hsame, ce, hce, hO⟩ := X₁.ctorThrowS hexec htr (own := own) (cls := cls) (names := names) (ic := ic) hown' hcls hnames h (fun x hx => nomatch hx) hfX hkX hcellA (by rw [hhp, hT]; exact Nat.le_refl _) (msg := .ref sa) rfl
    (g := { method := m, pc := pc + 7, locals := ls, stack := .ref sa :: .ref T.heap.size :: .ref T.heap.size :: rest, locked := none }) rfl hsize rfl rfl (rest := rest) rfl
    (by rw [hb]; exact d7) (by rw [hb]; exact d10) hout hRframes (by simp only [List.map_cons, List.sum_cons, hcat]; omega) hlocks
  obtain ⟨f1, f2⟩ := vx_frame hsame
  rw [hhp] at f1 f2
  have hWs : s.WarmedH U.vm := State.WarmedH.trans hW0 hW
  have hcl : s.vm.findClass cls = some ce.cls := by
    have h9 := hO.cls
    rw [hvm] at h9
    exact h9
  have hall : s.sameButNew ({ U with vm := s.vm } : State) locs mc ms := by
    subst hA
    obtain ⟨e1, e2⟩ := hsame
    rw [State.setFrames_setFrames] at e1
    have h2 : (T.setVm s.vm).sameButNew ({ U with vm := s.vm } : State) [] (0 + 1) (0 + 6) := ⟨e1, e2⟩
    have h3 := X.same.trans h2
    rw [List.append_nil] at h3
    exact h3.mono hc hs
  refine ⟨U, ?_, .threw T.heap.size, hrun, hend, Or.inr ⟨T.heap.size, rfl, cls, ce, locs, hx U hWs.alike f1 (fun q hq => f2 q hq (fun z hz => nomatch hz)), hce, hO.vm, hcl, hWs, hall, hf⟩⟩
  refine st1 _ ?_
  show Steps p.tables e below (T1.setTop { method := m, pc := pc + 3, locals := ls, stack := .ref T.heap.size :: rest, locked := none }) _
  jvm_step X₁.here [X₁.here.top, hexec, d3', Value.category]
  exact X₁.ldcStringW hexec (own := own) (text := text) (index := is) (a := sa) hown' hstr'.1 hstr'.2
    (g := { method := m, pc := pc + 4, locals := ls, stack := .ref T.heap.size :: .ref T.heap.size :: rest, locked := none }) rfl d4' _ hsteps
end Ends
section Bodies
variable {l : Launch}
theorem vx_ofW {y : MethodName} {ws ws' : List Cond} {rm : Room} {Pc : Array Value → State → Prop} {Qc : Array Value → State → Outcome → State → Prop} {XC : String → State → State → Prop} {mc ms : Nat} {free : Addr → Prop} {cc : ByteArray} {maxL : Nat} {ret : Option FieldType}
    (hy : plainName y.cls = true) (hw : ws = Cond.code y cc maxL ret :: ws')
    (body : ∀ p e s m args below meth c s₁, BodyLoose p l y (headSpec ws rm) cc maxL ret e s m args below meth c s₁ → c.maxLocals = maxL → (∀ x ∈ c.exceptionTable.toList, False) → Pc args s →
      W p l e (headSpec ws rm).room s m args below meth c s.heap [] 0 0 (vx_MQ below Qc XC args s mc ms free) (entryFrame m args maxL)) : vx_Met l y ws rm Pc Qc XC mc ms free := by
  refine MetFree.of_bodyS (code := cc) (maxLocals := maxL) (ret := ret) hy ?_ ?_
  · intro args s m h hn
    obtain ⟨meth, c, h1, h2, h3, h4, h5, h6, -, -⟩ := Cond.code_spec hn (atoms_spec (ws := ws) h _ (by rw [hw]; exact List.mem_cons_self))
    exact ⟨meth, c, h1, h2, h3, h4, h5, h6⟩
  · intro p e s m args below meth c s₁ B hml hP _
    have hh0 : s₁.heap = s.heap := by rw [B.state]; rfl
    have ht : ∀ x ∈ c.exceptionTable.toList, False := by
      obtain ⟨meth9, c9, h1, h2, -, -, -, -, h7, -⟩ := Cond.code_spec B.named (atoms_spec (ws := ws) B.pre _ (by rw [hw]; exact List.mem_cons_self))
      cases Option.some.inj (h1.symm.trans B.method)
      cases Option.some.inj (h2.symm.trans (Stand.of_body B).code)
      intro x hx
      rw [Array.isEmpty_iff.mp h7] at hx
      cases hx
    obtain ⟨t, a1, o, b1, b2, b3⟩ := body p e s m args below meth c s₁ B hml ht hP s₁ hh0 (Stand.of_body B)
    exact ⟨t, o, a1, b1, b2, b3⟩
/-- the table of a body with handlers -/
theorem vx_table {p : Program} {x y : MethodName} {S : Spec} {cc bytes : ByteArray} {maxL maxL' : Nat} {ret ret' : Option FieldType} {e : Env} {s s₁ : State} {m : MethodId} {args : Array Value} {below : List Frame} {meth : Method} {c : Code} {hh : List (Nat × Nat × Nat × Nat)}
    (B : BodyLoose p l y S cc maxL ret e s m args below meth c s₁) (h : (Cond.codeWith y bytes maxL' ret' hh).before args s = true) : c.exceptionTable.toList = tableOf hh := by
  obtain ⟨m9, meth9, c9, hn9, h1, h2, -, -, h6, -⟩ := Cond.codeWith_spec h
  cases Option.some.inj (hn9.symm.trans B.named)
  cases Option.some.inj (h1.symm.trans B.method)
  cases Option.some.inj (h2.symm.trans (Stand.of_body B).code)
  rw [← h6, table_eq]
end Bodies
end VXA
/-! ===== END ===== -/
/-! ===== BEGIN a static call of a method with an exception table ===== -/
section VXS
variable {p : Program} {l : Launch} {e : Env} {R : Room} {s : State} {m : MethodId} {args : Array Value} {below : List Frame} {meth : Method} {c : Code} {T : State} {H : Heap} {locs : List Loc} {cells slots : Nat}
abbrev vx_CSW (R : Room) (s : State) (args : Array Value) (own : String) (index : Nat) (y : MethodName) (bytes : ByteArray) (maxL : Nat) (ret : Option FieldType) (hh : List (Nat × Nat × Nat × Nat)) (ws : List Cond) (rm : Room) (mc ms n : Nat) : Prop :=
  (rm.cells = mc ∧ rm.slots = ms ∧ rm.frames + 1 ≤ R.frames ∧ 8 + (maxL + 11) + rm.locals ≤ R.locals ∧ (∀ w ∈ ws, ∀ (a' : Array Value) (U : State), s.WarmedH U.vm → w.before a' U = true) ∧ Cond.codeWith y bytes maxL ret hh ∈ ws) ∧
  (Cond.codeWith y bytes maxL ret hh).before args s = true ∧ (Cond.initialized y.cls).before args s = true ∧ (y.cls ≠ "java/lang/invoke/MethodHandle" ∧ y.cls ≠ "java/lang/invoke/VarHandle") ∧
  (∀ sig, parseMethodDescriptor y.desc = some sig → n = sig.parameters.length) ∧ (Cond.methodLink own index y).before args s = true ∧ (Cond.static y).before args s = true
theorem vx_cwSW {own : String} {index maxL mc ms : Nat} {y : MethodName} {bytes : ByteArray} {ret : Option FieldType} {hh : List (Nat × Nat × Nat × Nat)} {Ts ws ws' : List Cond} {rm : Room} (n : Nat) (ht : ∀ w ∈ Ts, w.before args s = true) (hT : GoodIn Ts (va_wsS own index y ws)) (hw : ws = Cond.codeWith y bytes maxL ret hh :: ws') (hrc : rm.cells = mc) (hrs : rm.slots = ms)
    (hd : y.cls ≠ "java/lang/invoke/MethodHandle" ∧ y.cls ≠ "java/lang/invoke/VarHandle" ∧ (parseMethodDescriptor y.desc).map (fun d => d.parameters.length) = some n) (hR : rm.frames + 1 ≤ R.frames ∧ 8 + (maxL + 11) + rm.locals ≤ R.locals) :
    vx_CSW R s args own index y bytes maxL ret hh ws rm mc ms n := by
  have ok : ∀ w ∈ va_wsS own index y ws, w.before args s = true := fun w h => ht w (hT w h).1
  have hG : GoodIn Ts ws := fun w h => hT w (by unfold va_wsS; exact List.mem_append_right _ h)
  have hc : Cond.codeWith y bytes maxL ret hh ∈ ws := by rw [hw]; exact List.mem_cons_self
  refine ⟨⟨hrc, hrs, hR.1, hR.2, pay_in ht hG, hc⟩, ht _ (hG _ hc).1, ok _ (by simp [va_wsS]), ⟨hd.1, hd.2.1⟩, fun sig h => ?_, ok _ (by simp [va_wsS]), ok _ (by simp [va_wsS])⟩
  have h2 := hd.2.2
  rw [h] at h2
  exact (Option.some.inj h2).symm
theorem vx_callSW (X : Stand p l e R s m args below meth c T locs cells slots) (hexec : p.tables.exec = Jvm.exec) {own : String} {index : Nat} {y : MethodName} {bytes : ByteArray} {maxL : Nat} {ret : Option FieldType} {hh : List (Nat × Nat × Nat × Nat)}
    (hown : s.vm.findClass own = some m.cls) (hlink : (Cond.methodLink own index y).before args s = true) (hstat : (Cond.static y).before args s = true) (hinit : (Cond.initialized y.cls).before args s = true)
    (hcode : (Cond.codeWith y bytes maxL ret hh).before args s = true) (hy : y.cls ≠ "java/lang/invoke/MethodHandle" ∧ y.cls ≠ "java/lang/invoke/VarHandle")
    {W9 : Nat} {Pre : Pt → Array Value → Prop} {Post : Pt → Array Value → Option Value → Pt → Prop} (hK : Back l R p e below s args y 3 W9 Pre Post)
    {g : JFrame} (hg : g.method = m) (hsize : g.locals.size = c.maxLocals) {argsL rest : List Value} (hlen : ∀ sig, parseMethodDescriptor y.desc = some sig → argsL.length = sig.parameters.length)
    (hstack : g.stack = argsL.reverse ++ rest) (hW : 2 * g.monitorRoom + (rest.map fun v => v.category).sum ≤ W9) (hdg : decode c.code g.pc = .ok (.invokestatic index, 3))
    (hpre : ∀ vm₁, s.WarmedH vm₁ → Pre ⟨T.setVm vm₁, locs, cells, slots⟩ argsL.toArray) :
    ∃ (v : Option Value) (vm₁ : Vm) (B : Pt), s.WarmedH vm₁ ∧ Stand p l e R s m args below meth c B.U B.locs B.cells B.slots ∧ Post ⟨T.setVm vm₁, locs, cells, slots⟩ argsL.toArray v B ∧
      ∀ target, Steps p.tables e below (B.U.setTop { g with pc := g.pc + 3, stack := v.toList ++ rest }) target → Steps p.tables e below (T.setTop g) target := by
  obtain ⟨mk, methM, cM, hnamed, hmethM, -, -, -, -, -, -, hsigM⟩ := Cond.codeWith_spec hcode
  have hstatic : methM.isStatic = true := Cond.static_spec hnamed hmethM hstat
  obtain ⟨kP, hkP, -⟩ := className_of_methodNamed hnamed
  have hinitP : kP.init = .initialized := Cond.initialized_spec (findClass_of_methodNamed hnamed) hkP hinit
  obtain ⟨vm₁, X₁, hstep₁⟩ := X.invokestatic hexec hown hlink hnamed hmethM hstatic hkP hinitP hy (g := g) hg (argsL := argsL) (rest := rest) (hlen _ hsigM) hstack hdg
  obtain ⟨v, B, X', hpost, hsteps⟩ := hK m meth c ⟨T.setVm vm₁, locs, cells, slots⟩ { g with stack := rest } (.invokestatic index) mk argsL.toArray X₁ hg hsize hdg hW (X₁.named hnamed) (hpre vm₁ X₁.warmed)
  exact ⟨v, vm₁, B, X₁.warmed, X', hpost, fun target h => hstep₁ _ fun acts => by rw [doInvoke_state]; exact hsteps.trans h⟩
theorem vx_runSW {y : MethodName} {bytes cc : ByteArray} {maxL nL mc ms n index : Nat} {ret : Option FieldType} {hh : List (Nat × Nat × Nat × Nat)} {ws : List Cond} {rm : Room} {Pc : Array Value → State → Prop} {Qc : Array Value → State → Outcome → State → Prop} {free : Addr → Prop} {Ts : List Cond} {own : String} {As rest : List Value} {g : JFrame}
    (S : CallFix p m c cc nL s args Ts own) (hM : Met l y ws rm Pc Qc mc ms free) (cw : vx_CSW R s args own index y bytes maxL ret hh ws rm mc ms n) (hp : PreS s H Pc As)
    (hg : g.method = m) (hn : As.length = n) (hsize : g.locals.size = nL) (hstack : g.stack = As.reverse ++ rest) (hW : 2 * g.monitorRoom + (rest.map fun v => v.category).sum ≤ 8) (hdg : decode cc g.pc = .ok (.invokestatic index, 3)) (hf : cells + mc ≤ R.cells ∧ slots + ms ≤ R.slots) :
    va_Run p l e R s m args below meth c H locs cells slots mc ms g rest (Qc As.toArray) (free) := by
  obtain ⟨⟨hrc, hrs, hfr, hlo, hws, hcw⟩, hcode, hini, hy, hlen, hl, hstt⟩ := cw
  have hK : Back l R p e below s args y 3 8 (PreOf R mc ms Pc) (PostOf Qc mc ms free) := va_backW (hh := hh) (bytes := bytes) (maxL := maxL) (ret := ret) hM hp.1 hrc hrs hfr hlo hws hcw (fun a' U hW => word_at hW (Or.inl (by first | rfl | simp [Cond.onTables, Cond.keeps, Cond.steady])) hini)
  obtain ⟨hx, hb, hml, ho, -⟩ := S
  intro T hT X
  obtain ⟨v, vm₁, ⟨U', l2, c2, s2⟩, hW₁, X', ⟨g', mk, t, L, e1, e2, hq, h1, hL, h2, h3⟩, st⟩ := vx_callSW X hx (hh := hh) (bytes := bytes) (maxL := maxL) (ret := ret) ho hl hstt hini hcode hy hK hg (hsize.trans hml.symm) (argsL := As) (rest := rest) (fun sig h => hn.trans (hlen sig h)) hstack hW (by rw [hb]; exact hdg)
    (fun vm₁ hW₁ => ⟨hf.1, hf.2, hp.2 (T.setVm vm₁) hT hW₁⟩)
  dsimp only [Pt.U, Pt.locs, Pt.cells, Pt.slots] at X' e1 e2 h1 h2 h3 st
  subst h1; subst h2; subst h3
  exact ⟨v, (T.setVm vm₁).calling g' mk As.toArray, t, U', L, hT, X', hL, e1, e2, hq, st⟩
/-- a thing of a world lies in the heap -/
theorem vx_lt {D : va_G} {cl : List vw_C} {ws : va_W} {H1 : Heap} (h : va_P D cl ws H1) {k : Nat} {q : Nat × va_E} (hk : ws[k]? = some q) : q.1 < H1.size := (h k q hk).lt
end VXS
/-! ===== END ===== -/
/-! ===== BEGIN methods with a table of their own: called by a name, returning or throwing ===== -/
section VXH
/-! vx_backW, vx_callVX, vx_callSX, vx_callVW, vx_runVW, vx_runVX, vx_runSX, vx_ofWH follow the same proofs as their sisters above (Free/Laws.lean, Shelf42/LK1.lean); vx_outP calls Shelf42/NT130.lean (outThrough). -/
section
variable {l : Launch} {R : Room} {p : Program} {e : Env} {below : List Frame} {s : State} {sargs : Array Value} {y : MethodName} {len W9 : Nat}
theorem vx_backW {ws : List Cond} {rm : Room} {Pc : Array Value → State → Prop} {Qc : Array Value → State → Outcome → State → Prop} {XC : String → State → State → Prop} {mc ms : Nat} {free : Addr → Prop} {bytes : ByteArray} {maxL : Nat} {ret : Option FieldType} {hh : List (Nat × Nat × Nat × Nat)}
    (hM : vx_Met l y ws rm Pc Qc XC mc ms free) (hblind : FrameBlind Pc) (hrc : rm.cells = mc) (hrs : rm.slots = ms)
    (hframes : rm.frames + 1 ≤ R.frames) (hlocals : W9 + (maxL + 11) + rm.locals ≤ R.locals)
    (hws : ∀ w ∈ ws, ∀ a' U, s.WarmedH U.vm → w.before a' U = true) (hcode : Cond.codeWith y bytes maxL ret hh ∈ ws) (hinit : ∀ a' U, s.WarmedH U.vm → (Cond.initialized y.cls).before a' U = true) :
    vx_Back l R p e below s sargs y len W9 (PreOf R mc ms Pc) (PostOf Qc mc ms free) (vx_Post XC mc ms free) := by
  intro m meth c A g ig mk a X hg hsize hdg hW hn hp
  have h1 : (headSpec ws rm).pre.before a A.U = true := atoms_intro fun w hw => hws w hw _ _ X.warmed
  have h2 : (Cond.codeWith y bytes maxL ret hh).before a A.U = true := hws _ hcode _ _ X.warmed
  have h3 : (Cond.initialized y.cls).before a A.U = true := hinit _ _ X.warmed
  have h4 : A.cells + (headSpec ws rm).room.cells ≤ R.cells := by rw [show (headSpec ws rm).room.cells = mc from hrc]; exact hp.1
  have h5 : A.slots + (headSpec ws rm).room.slots ≤ R.slots := by rw [show (headSpec ws rm).room.slots = ms from hrs]; exact hp.2.1
  have hPc : Pc a (A.U.calling g mk a) := hblind _ _ _ _ hp.2.2
  obtain ⟨U, Ls, c0, s0⟩ := A
  dsimp only [Pt.U, Pt.locs, Pt.cells, Pt.slots] at h1 h2 h3 h4 h5 X hn hPc ⊢
  obtain ⟨m9, methY, cY, hn9, hmY, hcY, -, hlY, -⟩ := Cond.codeWith_spec h2
  cases Option.some.inj (hn9.symm.trans hn)
  obtain ⟨kY, hkY, -⟩ := className_of_methodNamed hn
  have hinitY : kY.init = .initialized := Cond.initialized_spec (findClass_of_methodNamed hn) hkY h3
  have h : At U g.method c below := by rw [hg]; exact X.here
  have hlocals9 : W9 + (maxL + 11) + (headSpec ws rm).room.locals ≤ R.locals := hlocals
  have happ : (headSpec ws rm).appliesLoose y e.platform (U.calling g mk a) = true :=
    Spec.appliesLoose_calling (g := g) h hdg hn hkY hinitY
      (X.room_calling (g := g) (R' := (headSpec ws rm).room) hsize hmY hcY hframes (by rw [hlY]; omega) h4 h5) h1
  obtain ⟨mid, hmid⟩ := h.above
  have hfr : (U.setTop g).frames = (.java g :: mid) ++ below := by rw [State.frames_setTop' g h.top, hmid]; rfl
  obtain ⟨o, s₂, hsteps, -, hend, hq⟩ := Steps.callFree hM p X.admits X.cas X.clock (acts := []) hfr happ hPc trivial
  have hq' : vx_Q Qc XC mc ms free a (U.calling g mk a) o s₂ := hq
  rw [State.frames_setTop' g h.top] at hend
  obtain ⟨g₀, hg0⟩ := Option.isSome_iff_exists.mp h.top
  obtain ⟨r, hr⟩ := State.topJava?_eq_some.mp hg0
  have hr' : (({ U with heap := s₂.heap, slotsUsed := s₂.slotsUsed } : State).setVm s₂.vm).frames = .java g₀ :: r := hr
  rcases hq' with ⟨hqc, L, hfe, hL⟩ | ⟨q, rfl, E, ce, L, hx, hce, hcv, hcl, hW₂, hsm, hL⟩
  · obtain ⟨⟨v, rfl⟩, hW₂, e2, q2, q3, q4, q5, q6⟩ := id hfe
    have e3 : s₂ = ({ (U.calling g mk a).setFrames s₂.frames with heap := s₂.heap, slotsUsed := s₂.slotsUsed } : State).setVm s₂.vm := by
      have : s₂ = ({ s₂ with vm := (U.calling g mk a).vm } : State).setVm s₂.vm := rfl
      rw [e2] at this
      exact this
    obtain ⟨c₂, i₂, len₂, hc₂, hd₂, hf₂⟩ := hend
    have hW' : U.WarmedH s₂.vm := hW₂
    have hcc : c₂ = c := by
      have h1 : s₂.code? g.method = U.code? g.method := by
        rw [State.code?_eq, State.code?_eq, hW'.alike.method?]
      exact Option.some.inj (hc₂.symm.trans (h1.trans h.code))
    subst hcc
    have hlen : len₂ = len := by rw [hdg] at hd₂; cases hd₂; rfl
    subst hlen
    have hs₂ : s₂ = (({ U with heap := s₂.heap, slotsUsed := s₂.slotsUsed } : State).setVm s₂.vm).setTop { g with pc := g.pc + len₂, stack := v.toList ++ g.stack } := by
      refine e3.trans ?_
      rw [hf₂, State.calling_eq h.top, State.setFrames_setFrames, State.setTop_of_frames _ hr', hr]
      rfl
    have hsame : U.sameButNew ({ U with heap := s₂.heap, slotsUsed := s₂.slotsUsed } : State) L mc ms := by
      refine ⟨?_, q2, q3, q4, q5, q6⟩
      obtain ⟨t, ht, -⟩ := State.frames_cons hr
      show ({ U with heap := s₂.heap, slotsUsed := s₂.slotsUsed } : State) = { U.setFrames U.frames with heap := s₂.heap, slotsUsed := s₂.slotsUsed }
      rw [State.setFrames_self ht]
    subst hg
    refine Or.inl ⟨v, ⟨(({ U with heap := s₂.heap, slotsUsed := s₂.slotsUsed } : State).setVm s₂.vm), Ls ++ L, c0 + mc, s0 + ms⟩,
      ⟨X.admits, X.cas, X.clock, X.frames, X.room, X.hears, X.method, X.code, (X.here.setHeapUsed s₂.heap s₂.slotsUsed).setVm hW'.alike, X.tail, State.WarmedH.trans X.warmed hW', X.limits, X.bytes, X.same.trans (hsame.setVm s.vm)⟩,
      ⟨g, mk, s₂, L, rfl, rfl, hqc, rfl, hL, rfl, rfl⟩, ?_⟩
    show Steps p.tables e below _ ((({ U with heap := s₂.heap, slotsUsed := s₂.slotsUsed } : State).setVm s₂.vm).setTop { g with pc := g.pc + len₂, stack := v.toList ++ g.stack })
    rw [← hs₂]
    exact hsteps
  · obtain ⟨e2, q2, q3, q4, q5, q6⟩ := id hsm
    have e3 : s₂ = ({ (U.calling g mk a).setFrames s₂.frames with heap := s₂.heap, slotsUsed := s₂.slotsUsed } : State).setVm s₂.vm := by
      have : s₂ = ({ s₂ with vm := (U.calling g mk a).vm } : State).setVm s₂.vm := rfl
      rw [e2] at this
      exact this
    have hf₂ : s₂.frames = .throwing q :: .java g :: U.frames.tail := hend
    have hW' : U.WarmedH s₂.vm := hW₂
    have hs₂ : s₂ = ((({ U with heap := s₂.heap, slotsUsed := s₂.slotsUsed } : State).setVm s₂.vm).setTop g).pushFrame (.throwing q) := by
      refine e3.trans ?_
      rw [hf₂, State.calling_eq h.top, State.setFrames_setFrames, State.pushFrame, State.frames_setTop _ hr', State.setTop_of_frames _ hr', State.setFrames_setFrames, hr]
      rfl
    have hsame : U.sameButNew ({ U with heap := s₂.heap, slotsUsed := s₂.slotsUsed } : State) L mc ms := by
      refine ⟨?_, q2, q3, q4, q5, q6⟩
      obtain ⟨t, ht, -⟩ := State.frames_cons hr
      show ({ U with heap := s₂.heap, slotsUsed := s₂.slotsUsed } : State) = { U.setFrames U.frames with heap := s₂.heap, slotsUsed := s₂.slotsUsed }
      rw [State.setFrames_self ht]
    subst hg
    refine Or.inr ⟨q, ⟨(({ U with heap := s₂.heap, slotsUsed := s₂.slotsUsed } : State).setVm s₂.vm), Ls ++ L, c0 + mc, s0 + ms⟩,
      ⟨X.admits, X.cas, X.clock, X.frames, X.room, X.hears, X.method, X.code, (X.here.setHeapUsed s₂.heap s₂.slotsUsed).setVm hW'.alike, X.tail, State.WarmedH.trans X.warmed hW', X.limits, X.bytes, X.same.trans (hsame.setVm s.vm)⟩,
      ⟨g, mk, s₂, L, E, ce, rfl, rfl, hx, hce, hcv, hcl, rfl, hL, rfl, rfl⟩, ?_⟩
    show Steps p.tables e below _ (((({ U with heap := s₂.heap, slotsUsed := s₂.slotsUsed } : State).setVm s₂.vm).setTop g).pushFrame (.throwing q))
    rw [← hs₂]
    exact hsteps
end
variable {p : Program} {l : Launch} {e : Env} {R : Room} {s : State} {m : MethodId} {args : Array Value} {below : List Frame} {meth : Method} {c : Code} {T : State} {H : Heap} {locs : List Loc} {cells slots : Nat}
theorem vx_callVX (X : Stand p l e R s m args below meth c T locs cells slots) (hexec : p.tables.exec = Jvm.exec) {own C : String} {index : Nat} {y : MethodName} {bytes : ByteArray} {maxL : Nat} {ret : Option FieldType} {hh : List (Nat × Nat × Nat × Nat)}
    (hown : s.vm.findClass own = some m.cls) (hlink : (Cond.methodLink own index y).before args s = true) (hinst : (Cond.instanceMethod y).before args s = true) (hsel : (Cond.selects C y y).before args s = true)
    (hcode : (Cond.codeWith y bytes maxL ret hh).before args s = true) (hy : y.cls ≠ "java/lang/invoke/MethodHandle" ∧ y.cls ≠ "java/lang/invoke/VarHandle")
    {W9 : Nat} {Pre : Pt → Array Value → Prop} {Post : Pt → Array Value → Option Value → Pt → Prop} {PostX : Pt → Array Value → Addr → Pt → Prop} (hK : vx_Back l R p e below s args y 3 W9 Pre Post PostX)
    {b : Addr} {cellB : Cell} (hcell : T.heap[b]? = some cellB) (hobj : cellB.vm.isStatics = false) (hcls : s.vm.findClass C = some cellB.cls)
    {g : JFrame} (hg : g.method = m) (hsize : g.locals.size = c.maxLocals) {argsL rest : List Value} (hlen : ∀ sig, parseMethodDescriptor y.desc = some sig → argsL.length = sig.parameters.length)
    (hstack : g.stack = argsL.reverse ++ .ref b :: rest) (hW : 2 * g.monitorRoom + (rest.map fun v => v.category).sum ≤ W9) (hdg : decode c.code g.pc = .ok (.invokevirtual index, 3))
    (hpre : ∀ vm₁, s.WarmedH vm₁ → Pre ⟨T.setVm vm₁, locs, cells, slots⟩ (Value.ref b :: argsL).toArray) :
    (∃ (v : Option Value) (vm₁ : Vm) (B : Pt), s.WarmedH vm₁ ∧ Stand p l e R s m args below meth c B.U B.locs B.cells B.slots ∧ Post ⟨T.setVm vm₁, locs, cells, slots⟩ (Value.ref b :: argsL).toArray v B ∧
      ∀ target, Steps p.tables e below (B.U.setTop { g with pc := g.pc + 3, stack := v.toList ++ rest }) target → Steps p.tables e below (T.setTop g) target) ∨
    (∃ (q : Addr) (vm₁ : Vm) (B : Pt), s.WarmedH vm₁ ∧ Stand p l e R s m args below meth c B.U B.locs B.cells B.slots ∧ PostX ⟨T.setVm vm₁, locs, cells, slots⟩ (Value.ref b :: argsL).toArray q B ∧
      Steps p.tables e below (T.setTop g) ((B.U.setTop { g with stack := rest }).pushFrame (.throwing q))) := by
  obtain ⟨mk, methM, hnamed, hmethM, hstM, habM⟩ := Cond.instanceMethod_spec hinst
  obtain ⟨m8, methM', cM, hn8, hmethM', -, -, -, -, -, -, hsigM⟩ := Cond.codeWith_spec hcode
  cases Option.some.inj (hn8.symm.trans hnamed)
  cases hmethM.symm.trans hmethM'
  obtain ⟨c2, r2, m2, q1, q2, q3, q4, kP, hkP, hkPi⟩ := Cond.selects_spec hsel
  cases hcls.symm.trans q1
  cases (State.methodFound?_of_named hnamed hy).symm.trans q2
  cases hnamed.symm.trans q3
  have hselP : selectMethod e.platform s.vm cellB.cls mk = .method mk := by rw [Launch.admits_selectMethod X.admits]; exact q4
  obtain ⟨vm₁, X₁, hstep₁⟩ := X.invokevirtual hexec hown hlink hnamed hmethM hstM hkP hkPi hy (a := b) (cell := cellB) hcell
    (fun z h => by rw [h] at hobj; cases hobj) hselP hmethM habM hkP hkPi (g := g) hg (argsL := argsL) (rest := rest) (hlen _ hsigM) hstack hdg
  rcases hK m meth c ⟨T.setVm vm₁, locs, cells, slots⟩ { g with stack := rest } (.invokevirtual index) mk (Value.ref b :: argsL).toArray X₁ hg hsize hdg hW (X₁.named hnamed) (hpre vm₁ X₁.warmed) with ⟨v, B, X', hpost, hsteps⟩ | ⟨q, B, X', hpost, hsteps⟩
  · exact Or.inl ⟨v, vm₁, B, X₁.warmed, X', hpost, fun target h => hstep₁ _ fun acts => by rw [doInvoke_state]; exact hsteps.trans h⟩
  · exact Or.inr ⟨q, vm₁, B, X₁.warmed, X', hpost, hstep₁ _ fun acts => by rw [doInvoke_state]; exact hsteps⟩
theorem vx_callSX (X : Stand p l e R s m args below meth c T locs cells slots) (hexec : p.tables.exec = Jvm.exec) {own : String} {index : Nat} {y : MethodName} {bytes : ByteArray} {maxL : Nat} {ret : Option FieldType} {hh : List (Nat × Nat × Nat × Nat)}
    (hown : s.vm.findClass own = some m.cls) (hlink : (Cond.methodLink own index y).before args s = true) (hstat : (Cond.static y).before args s = true) (hinit : (Cond.initialized y.cls).before args s = true)
    (hcode : (Cond.codeWith y bytes maxL ret hh).before args s = true) (hy : y.cls ≠ "java/lang/invoke/MethodHandle" ∧ y.cls ≠ "java/lang/invoke/VarHandle")
    {W9 : Nat} {Pre : Pt → Array Value → Prop} {Post : Pt → Array Value → Option Value → Pt → Prop} {PostX : Pt → Array Value → Addr → Pt → Prop} (hK : vx_Back l R p e below s args y 3 W9 Pre Post PostX)
    {g : JFrame} (hg : g.method = m) (hsize : g.locals.size = c.maxLocals) {argsL rest : List Value} (hlen : ∀ sig, parseMethodDescriptor y.desc = some sig → argsL.length = sig.parameters.length)
    (hstack : g.stack = argsL.reverse ++ rest) (hW : 2 * g.monitorRoom + (rest.map fun v => v.category).sum ≤ W9) (hdg : decode c.code g.pc = .ok (.invokestatic index, 3))
    (hpre : ∀ vm₁, s.WarmedH vm₁ → Pre ⟨T.setVm vm₁, locs, cells, slots⟩ argsL.toArray) :
    (∃ (v : Option Value) (vm₁ : Vm) (B : Pt), s.WarmedH vm₁ ∧ Stand p l e R s m args below meth c B.U B.locs B.cells B.slots ∧ Post ⟨T.setVm vm₁, locs, cells, slots⟩ argsL.toArray v B ∧
      ∀ target, Steps p.tables e below (B.U.setTop { g with pc := g.pc + 3, stack := v.toList ++ rest }) target → Steps p.tables e below (T.setTop g) target) ∨
    (∃ (q : Addr) (vm₁ : Vm) (B : Pt), s.WarmedH vm₁ ∧ Stand p l e R s m args below meth c B.U B.locs B.cells B.slots ∧ PostX ⟨T.setVm vm₁, locs, cells, slots⟩ argsL.toArray q B ∧
      Steps p.tables e below (T.setTop g) ((B.U.setTop { g with stack := rest }).pushFrame (.throwing q))) := by
  obtain ⟨mk, methM, cM, hnamed, hmethM, -, -, -, -, -, -, hsigM⟩ := Cond.codeWith_spec hcode
  have hstatic : methM.isStatic = true := Cond.static_spec hnamed hmethM hstat
  obtain ⟨kP, hkP, -⟩ := className_of_methodNamed hnamed
  have hinitP : kP.init = .initialized := Cond.initialized_spec (findClass_of_methodNamed hnamed) hkP hinit
  obtain ⟨vm₁, X₁, hstep₁⟩ := X.invokestatic hexec hown hlink hnamed hmethM hstatic hkP hinitP hy (g := g) hg (argsL := argsL) (rest := rest) (hlen _ hsigM) hstack hdg
  rcases hK m meth c ⟨T.setVm vm₁, locs, cells, slots⟩ { g with stack := rest } (.invokestatic index) mk argsL.toArray X₁ hg hsize hdg hW (X₁.named hnamed) (hpre vm₁ X₁.warmed) with ⟨v, B, X', hpost, hsteps⟩ | ⟨q, B, X', hpost, hsteps⟩
  · exact Or.inl ⟨v, vm₁, B, X₁.warmed, X', hpost, fun target h => hstep₁ _ fun acts => by rw [doInvoke_state]; exact hsteps.trans h⟩
  · exact Or.inr ⟨q, vm₁, B, X₁.warmed, X', hpost, hstep₁ _ fun acts => by rw [doInvoke_state]; exact hsteps⟩
theorem vx_callVW (X : Stand p l e R s m args below meth c T locs cells slots) (hexec : p.tables.exec = Jvm.exec) {own C : String} {index : Nat} {y : MethodName} {bytes : ByteArray} {maxL : Nat} {ret : Option FieldType} {hh : List (Nat × Nat × Nat × Nat)}
    (hown : s.vm.findClass own = some m.cls) (hlink : (Cond.methodLink own index y).before args s = true) (hinst : (Cond.instanceMethod y).before args s = true) (hsel : (Cond.selects C y y).before args s = true)
    (hcode : (Cond.codeWith y bytes maxL ret hh).before args s = true) (hy : y.cls ≠ "java/lang/invoke/MethodHandle" ∧ y.cls ≠ "java/lang/invoke/VarHandle")
    {W9 : Nat} {Pre : Pt → Array Value → Prop} {Post : Pt → Array Value → Option Value → Pt → Prop} (hK : Back l R p e below s args y 3 W9 Pre Post)
    {b : Addr} {cellB : Cell} (hcell : T.heap[b]? = some cellB) (hobj : cellB.vm.isStatics = false) (hcls : s.vm.findClass C = some cellB.cls)
    {g : JFrame} (hg : g.method = m) (hsize : g.locals.size = c.maxLocals) {argsL rest : List Value} (hlen : ∀ sig, parseMethodDescriptor y.desc = some sig → argsL.length = sig.parameters.length)
    (hstack : g.stack = argsL.reverse ++ .ref b :: rest) (hW : 2 * g.monitorRoom + (rest.map fun v => v.category).sum ≤ W9) (hdg : decode c.code g.pc = .ok (.invokevirtual index, 3))
    (hpre : ∀ vm₁, s.WarmedH vm₁ → Pre ⟨T.setVm vm₁, locs, cells, slots⟩ (Value.ref b :: argsL).toArray) :
    ∃ (v : Option Value) (vm₁ : Vm) (B : Pt), s.WarmedH vm₁ ∧ Stand p l e R s m args below meth c B.U B.locs B.cells B.slots ∧ Post ⟨T.setVm vm₁, locs, cells, slots⟩ (Value.ref b :: argsL).toArray v B ∧
      ∀ target, Steps p.tables e below (B.U.setTop { g with pc := g.pc + 3, stack := v.toList ++ rest }) target → Steps p.tables e below (T.setTop g) target := by
  obtain ⟨mk, methM, hnamed, hmethM, hstM, habM⟩ := Cond.instanceMethod_spec hinst
  obtain ⟨m8, methM', cM, hn8, hmethM', -, -, -, -, -, -, hsigM⟩ := Cond.codeWith_spec hcode
  cases Option.some.inj (hn8.symm.trans hnamed)
  cases hmethM.symm.trans hmethM'
  obtain ⟨c2, r2, m2, q1, q2, q3, q4, kP, hkP, hkPi⟩ := Cond.selects_spec hsel
  cases hcls.symm.trans q1
  cases (State.methodFound?_of_named hnamed hy).symm.trans q2
  cases hnamed.symm.trans q3
  have hselP : selectMethod e.platform s.vm cellB.cls mk = .method mk := by rw [Launch.admits_selectMethod X.admits]; exact q4
  obtain ⟨vm₁, X₁, hstep₁⟩ := X.invokevirtual hexec hown hlink hnamed hmethM hstM hkP hkPi hy (a := b) (cell := cellB) hcell
    (fun z h => by rw [h] at hobj; cases hobj) hselP hmethM habM hkP hkPi (g := g) hg (argsL := argsL) (rest := rest) (hlen _ hsigM) hstack hdg
  obtain ⟨v, B, X', hpost, hsteps⟩ := hK m meth c ⟨T.setVm vm₁, locs, cells, slots⟩ { g with stack := rest } (.invokevirtual index) mk (Value.ref b :: argsL).toArray X₁ hg hsize hdg hW (X₁.named hnamed) (hpre vm₁ X₁.warmed)
  exact ⟨v, vm₁, B, X₁.warmed, X', hpost, fun target h => hstep₁ _ fun acts => by rw [doInvoke_state]; exact hsteps.trans h⟩
abbrev vx_CVW (R : Room) (s : State) (args : Array Value) (own C : String) (index : Nat) (y : MethodName) (bytes : ByteArray) (maxL : Nat) (ret : Option FieldType) (hh : List (Nat × Nat × Nat × Nat)) (ws : List Cond) (rm : Room) (mc ms n : Nat) : Prop :=
  (rm.cells = mc ∧ rm.slots = ms ∧ rm.frames + 1 ≤ R.frames ∧ 8 + (maxL + 11) + rm.locals ≤ R.locals ∧ (∀ w ∈ ws, ∀ (a' : Array Value) (U : State), s.WarmedH U.vm → w.before a' U = true) ∧ Cond.codeWith y bytes maxL ret hh ∈ ws) ∧
  (Cond.codeWith y bytes maxL ret hh).before args s = true ∧ (Cond.initialized y.cls).before args s = true ∧ (y.cls ≠ "java/lang/invoke/MethodHandle" ∧ y.cls ≠ "java/lang/invoke/VarHandle") ∧
  (∀ sig, parseMethodDescriptor y.desc = some sig → n = sig.parameters.length) ∧ (Cond.methodLink own index y).before args s = true ∧ (Cond.instanceMethod y).before args s = true ∧ (Cond.selects C y y).before args s = true
theorem vx_cwVW {own C : String} {index maxL mc ms : Nat} {y : MethodName} {bytes : ByteArray} {ret : Option FieldType} {hh : List (Nat × Nat × Nat × Nat)} {Ts ws ws' : List Cond} {rm : Room} (n : Nat) (ht : ∀ w ∈ Ts, w.before args s = true) (hT : GoodIn Ts (wsV own index C y ws)) (hw : ws = Cond.codeWith y bytes maxL ret hh :: ws') (hrc : rm.cells = mc) (hrs : rm.slots = ms)
    (hd : y.cls = C ∧ y.cls ≠ "java/lang/invoke/MethodHandle" ∧ y.cls ≠ "java/lang/invoke/VarHandle" ∧ (parseMethodDescriptor y.desc).map (fun d => d.parameters.length) = some n) (hR : rm.frames + 1 ≤ R.frames ∧ 8 + (maxL + 11) + rm.locals ≤ R.locals) :
    vx_CVW R s args own C index y bytes maxL ret hh ws rm mc ms n := by
  obtain ⟨hC, hd⟩ := hd
  subst hC
  have ok : ∀ w ∈ wsV own index y.cls y ws, w.before args s = true := fun w h => ht w (hT w h).1
  have hG : GoodIn Ts ws := fun w h => hT w (by unfold wsV; exact List.mem_append_right _ h)
  have hc : Cond.codeWith y bytes maxL ret hh ∈ ws := by rw [hw]; exact List.mem_cons_self
  refine ⟨⟨hrc, hrs, hR.1, hR.2, pay_in ht hG, hc⟩, ht _ (hG _ hc).1, ok _ (by simp [wsV]), ⟨hd.1, hd.2.1⟩, fun sig h => ?_, ok _ (by simp [wsV]), ok _ (by simp [wsV]), ok _ (by simp [wsV])⟩
  have h2 := hd.2.2
  rw [h] at h2
  exact (Option.some.inj h2).symm
theorem vx_runVW {y : MethodName} {bytes cc : ByteArray} {maxL nL mc ms n index : Nat} {ret : Option FieldType} {hh : List (Nat × Nat × Nat × Nat)} {ws : List Cond} {rm : Room} {Pc : Array Value → State → Prop} {Qc : Array Value → State → Outcome → State → Prop} {free : Addr → Prop} {Ts : List Cond} {own C : String} {b : Addr} {As rest : List Value} {g : JFrame}
    (S : CallFix p m c cc nL s args Ts own) (hM : Met l y ws rm Pc Qc mc ms free) (cw : vx_CVW R s args own C index y bytes maxL ret hh ws rm mc ms n) (hp : PreV s H C b Pc As)
    (hg : g.method = m) (hn : As.length = n) (hsize : g.locals.size = nL) (hstack : g.stack = As.reverse ++ .ref b :: rest) (hW : 2 * g.monitorRoom + (rest.map fun v => v.category).sum ≤ 8) (hdg : decode cc g.pc = .ok (.invokevirtual index, 3)) (hf : cells + mc ≤ R.cells ∧ slots + ms ≤ R.slots) :
    va_Run p l e R s m args below meth c H locs cells slots mc ms g rest (Qc (Value.ref b :: As).toArray) free := by
  obtain ⟨⟨hrc, hrs, hfr, hlo, hws, hcw⟩, hcode, hini, hy, hlen, hl, hin, hse⟩ := cw
  have hK : Back l R p e below s args y 3 8 (PreOf R mc ms Pc) (PostOf Qc mc ms free) := va_backW (hh := hh) (bytes := bytes) (maxL := maxL) (ret := ret) hM hp.1 hrc hrs hfr hlo hws hcw (fun a' U hW => word_at hW (Or.inl (by first | rfl | simp [Cond.onTables, Cond.keeps, Cond.steady])) hini)
  obtain ⟨hx, hb, hml, ho, -⟩ := S
  obtain ⟨-, ⟨cellB, hcB, hoB, hclB⟩, hPc⟩ := hp
  intro T hT X
  obtain ⟨v, vm₁, ⟨U', l2, c2, s2⟩, hW₁, X', ⟨g', mk, t, L, e1, e2, hq, h1, hL, h2, h3⟩, st⟩ := vx_callVW X hx (C := C) (hh := hh) (bytes := bytes) (maxL := maxL) (ret := ret) ho hl hin hse hcode hy hK (by rw [hT]; exact hcB) hoB hclB hg (hsize.trans hml.symm) (argsL := As) (rest := rest) (fun sig h => hn.trans (hlen sig h)) hstack hW (by rw [hb]; exact hdg)
    (fun vm₁ hW₁ => ⟨hf.1, hf.2, hPc (T.setVm vm₁) hT hW₁⟩)
  dsimp only [Pt.U, Pt.locs, Pt.cells, Pt.slots] at X' e1 e2 h1 h2 h3 st
  subst h1; subst h2; subst h3
  exact ⟨v, (T.setVm vm₁).calling g' mk (Value.ref b :: As).toArray, t, U', L, hT, X', hL, e1, e2, hq, st⟩
section
variable {y : MethodName} {bytes cc : ByteArray} {maxL nL mc ms n index : Nat} {ret : Option FieldType} {ws : List Cond} {rm : Room} {Pc : Array Value → State → Prop} {Qc : Array Value → State → Outcome → State → Prop} {XC : String → State → State → Prop} {free : Addr → Prop} {Ts : List Cond} {own C : String} {b : Addr} {As rest : List Value} {g : JFrame}
theorem vx_runVX {hh : List (Nat × Nat × Nat × Nat)} (S : CallFix p m c cc nL s args Ts own) (hM : vx_Met l y ws rm Pc Qc XC mc ms free) (cw : vx_CVW R s args own C index y bytes maxL ret hh ws rm mc ms n) (hp : PreV s H C b Pc As)
    (hg : g.method = m) (hn : As.length = n) (hsize : g.locals.size = nL) (hstack : g.stack = As.reverse ++ .ref b :: rest) (hW : 2 * g.monitorRoom + (rest.map fun v => v.category).sum ≤ 8) (hdg : decode cc g.pc = .ok (.invokevirtual index, 3)) (hf : cells + mc ≤ R.cells ∧ slots + ms ≤ R.slots) :
    vx_Run p l e R s m args below meth c H locs cells slots mc ms g rest (Qc (Value.ref b :: As).toArray) XC free := by
  obtain ⟨⟨hrc, hrs, hfr, hlo, hws, hcw⟩, hcode, hini, hy, hlen, hl, hin, hse⟩ := cw
  have hK : vx_Back l R p e below s args y 3 8 (PreOf R mc ms Pc) (PostOf Qc mc ms free) (vx_Post XC mc ms free) := vx_backW (hh := hh) (bytes := bytes) (maxL := maxL) (ret := ret) hM hp.1 hrc hrs hfr hlo hws hcw (fun a' U hW => word_at hW (Or.inl (by first | rfl | simp [Cond.onTables, Cond.keeps, Cond.steady])) hini)
  obtain ⟨hx, hb, hml, ho, -⟩ := S
  obtain ⟨-, ⟨cellB, hcB, hoB, hclB⟩, hPc⟩ := hp
  intro T hT X
  rcases vx_callVX X hx (C := C) (hh := hh) (bytes := bytes) (maxL := maxL) (ret := ret) ho hl hin hse hcode hy hK (by rw [hT]; exact hcB) hoB hclB hg (hsize.trans hml.symm) (argsL := As) (rest := rest) (fun sig h => hn.trans (hlen sig h)) hstack hW (by rw [hb]; exact hdg)
    (fun vm₁ hW₁ => ⟨hf.1, hf.2, hPc (T.setVm vm₁) hT hW₁⟩) with ⟨v, vm₁, ⟨U', l2, c2, s2⟩, hW₁, X', ⟨g', mk, t, L, e1, e2, hq, h1, hL, h2, h3⟩, st⟩ | ⟨q, vm₁, ⟨U', l2, c2, s2⟩, hW₁, X', ⟨g', mk, t, L, E, ce, e1, e2, hq, hce, hcv, hcl, h1, hL, h2, h3⟩, st⟩
  · dsimp only [Pt.U, Pt.locs, Pt.cells, Pt.slots] at X' e1 e2 h1 h2 h3 st
    subst h1; subst h2; subst h3
    exact Or.inl ⟨v, (T.setVm vm₁).calling g' mk (Value.ref b :: As).toArray, t, U', L, hT, X', hL, e1, e2, hq, st⟩
  · dsimp only [Pt.U, Pt.locs, Pt.cells, Pt.slots] at X' e1 e2 h1 h2 h3 st hcl
    subst h1; subst h2; subst h3
    exact Or.inr ⟨q, (T.setVm vm₁).calling g' mk (Value.ref b :: As).toArray, t, U', L, E, ce, hT, X', hL, e1, e2, hq, hce, hcv, vx_cls hW₁ hcl, st⟩
theorem vx_runSX {hh : List (Nat × Nat × Nat × Nat)} (S : CallFix p m c cc nL s args Ts own) (hM : vx_Met l y ws rm Pc Qc XC mc ms free) (cw : vx_CSW R s args own index y bytes maxL ret hh ws rm mc ms n) (hp : PreS s H Pc As)
    (hg : g.method = m) (hn : As.length = n) (hsize : g.locals.size = nL) (hstack : g.stack = As.reverse ++ rest) (hW : 2 * g.monitorRoom + (rest.map fun v => v.category).sum ≤ 8) (hdg : decode cc g.pc = .ok (.invokestatic index, 3)) (hf : cells + mc ≤ R.cells ∧ slots + ms ≤ R.slots) :
    vx_Run p l e R s m args below meth c H locs cells slots mc ms g rest (Qc As.toArray) XC free := by
  obtain ⟨⟨hrc, hrs, hfr, hlo, hws, hcw⟩, hcode, hini, hy, hlen, hl, hstt⟩ := cw
  have hK : vx_Back l R p e below s args y 3 8 (PreOf R mc ms Pc) (PostOf Qc mc ms free) (vx_Post XC mc ms free) := vx_backW (hh := hh) (bytes := bytes) (maxL := maxL) (ret := ret) hM hp.1 hrc hrs hfr hlo hws hcw (fun a' U hW => word_at hW (Or.inl (by first | rfl | simp [Cond.onTables, Cond.keeps, Cond.steady])) hini)
  obtain ⟨hx, hb, hml, ho, -⟩ := S
  intro T hT X
  rcases vx_callSX X hx (hh := hh) (bytes := bytes) (maxL := maxL) (ret := ret) ho hl hstt hini hcode hy hK hg (hsize.trans hml.symm) (argsL := As) (rest := rest) (fun sig h => hn.trans (hlen sig h)) hstack hW (by rw [hb]; exact hdg)
    (fun vm₁ hW₁ => ⟨hf.1, hf.2, hp.2 (T.setVm vm₁) hT hW₁⟩) with ⟨v, vm₁, ⟨U', l2, c2, s2⟩, hW₁, X', ⟨g', mk, t, L, e1, e2, hq, h1, hL, h2, h3⟩, st⟩ | ⟨q, vm₁, ⟨U', l2, c2, s2⟩, hW₁, X', ⟨g', mk, t, L, E, ce, e1, e2, hq, hce, hcv, hcl, h1, hL, h2, h3⟩, st⟩
  · dsimp only [Pt.U, Pt.locs, Pt.cells, Pt.slots] at X' e1 e2 h1 h2 h3 st
    subst h1; subst h2; subst h3
    exact Or.inl ⟨v, (T.setVm vm₁).calling g' mk As.toArray, t, U', L, hT, X', hL, e1, e2, hq, st⟩
  · dsimp only [Pt.U, Pt.locs, Pt.cells, Pt.slots] at X' e1 e2 h1 h2 h3 st hcl
    subst h1; subst h2; subst h3
    exact Or.inr ⟨q, (T.setVm vm₁).calling g' mk As.toArray, t, U', L, E, ce, hT, X', hL, e1, e2, hq, hce, hcv, vx_cls hW₁ hcl, st⟩
end
end VXH
theorem vx_ofWH {l : Launch} {y : MethodName} {ws ws' : List Cond} {rm : Room} {Pc : Array Value → State → Prop} {Qc : Array Value → State → Outcome → State → Prop} {XC : String → State → State → Prop} {mc ms : Nat} {free : Addr → Prop} {cc : ByteArray} {maxL : Nat} {ret : Option FieldType} {hh : List (Nat × Nat × Nat × Nat)}
    (hy : plainName y.cls = true) (hw : ws = Cond.codeWith y cc maxL ret hh :: ws')
    (body : ∀ p e s m args below meth c s₁, BodyLoose p l y (headSpec ws rm) cc maxL ret e s m args below meth c s₁ → c.maxLocals = maxL → Pc args s →
      W p l e (headSpec ws rm).room s m args below meth c s.heap [] 0 0 (vx_MQ below Qc XC args s mc ms free) (entryFrame m args maxL)) : vx_Met l y ws rm Pc Qc XC mc ms free := by
  refine MetFree.of_bodyS (code := cc) (maxLocals := maxL) (ret := ret) hy ?_ ?_
  · intro args s m h hn
    obtain ⟨m9, meth, c, hn9, h1, h2, h3, h4, -, h5, h6, -⟩ := Cond.codeWith_spec (atoms_spec (ws := ws) h _ (by rw [hw]; exact List.mem_cons_self))
    cases hn.symm.trans hn9
    exact ⟨meth, c, h1, h2, h3, h4, h5, h6⟩
  · intro p e s m args below meth c s₁ B hml hP _
    have hh0 : s₁.heap = s.heap := by rw [B.state]; rfl
    obtain ⟨t, a1, o, b1, b2, b3⟩ := body p e s m args below meth c s₁ B hml hP s₁ hh0 (Stand.of_body B)
    exact ⟨t, o, a1, b1, b2, b3⟩
/-! ===== END ===== -/
end
section
/-! ===== BEGIN printed: names, fields, word lists, decode rows ===== -/
def RX0 : String := "DotStores$Dots"
def TX0 : u_T := fun k => match k with
  | 0 => ("DotStores$Dots", "replica", "[I", true)
  | 1 => ("DotStores$Dots", "number", "[I", true)
  | 2 => ("DotStores$Dots", "key", "[I", true)
  | 3 => ("DotStores$Dots", "part", "[I", true)
  | 4 => ("DotStores$Dots", "value", "[J", true)
  | 5 => ("DotStores$Dots", "greatest", "[I", true)
  | _ => ("DotStores$Dots", "count", "I", false)
def tyX0 : Nat → FieldType := fun k => match k with
  | 0 => .array .int
  | 1 => .array .int
  | 2 => .array .int
  | 3 => .array .int
  | 4 => .array .long
  | 5 => .array .int
  | _ => .int
abbrev wsX00 : List Cond := u_ws RX0 TX0 7
theorem nmX0 : ∀ a, a < 7 → ∀ b, b < 7 → a ≠ b → (TX0 a).2.1 ≠ (TX0 b).2.1 := by decide +kernel
theorem tyX0_ok : ∀ k, k < 7 → parseFieldDescriptor (TX0 k).2.2.1 = some (tyX0 k) := by decide +kernel
abbrev cX0_init : ByteArray := prog_2_method_1_code
def yX0_init : MethodName := ⟨RX0, "<init>", "()V"⟩
abbrev cX0_canMake : ByteArray := prog_2_method_2_code
def yX0_canMake : MethodName := ⟨RX0, "canMake", "(I)Z"⟩
abbrev cX0_make : ByteArray := prog_2_method_3_code
def yX0_make : MethodName := ⟨RX0, "make", "(IIIJ)I"⟩
abbrev cX0_fits : ByteArray := prog_2_method_4_code
def yX0_fits : MethodName := ⟨RX0, "fits", "(IIII)Z"⟩
def RX1 : String := "DotStores$State"
def TX1 : u_T := fun k => match k with
  | 0 => ("DotStores$State", "seen", "[J", true)
  | 1 => ("DotStores$State", "live", "[J", true)
  | 2 => ("DotStores$State", "stamps", "[I", true)
  | 3 => ("DotStores$State", "put", "I", false)
  | _ => ("DotStores$State", "taken", "I", false)
def tyX1 : Nat → FieldType := fun k => match k with
  | 0 => .array .long
  | 1 => .array .long
  | 2 => .array .int
  | 3 => .int
  | _ => .int
abbrev wsX10 : List Cond := u_ws RX1 TX1 5
theorem nmX1 : ∀ a, a < 5 → ∀ b, b < 5 → a ≠ b → (TX1 a).2.1 ≠ (TX1 b).2.1 := by decide +kernel
theorem tyX1_ok : ∀ k, k < 5 → parseFieldDescriptor (TX1 k).2.2.1 = some (tyX1 k) := by decide +kernel
abbrev cX1_init : ByteArray := prog_3_method_1_code
def yX1_init : MethodName := ⟨RX1, "<init>", "()V"⟩
abbrev cX1_isSeen : ByteArray := prog_3_method_2_code
def yX1_isSeen : MethodName := ⟨RX1, "isSeen", "(I)Z"⟩
abbrev cX1_isLive : ByteArray := prog_3_method_3_code
def yX1_isLive : MethodName := ⟨RX1, "isLive", "(I)Z"⟩
abbrev cX1_see : ByteArray := prog_3_method_4_code
def yX1_see : MethodName := ⟨RX1, "see", "(I)V"⟩
abbrev cX1_enliven : ByteArray := prog_3_method_5_code
def yX1_enliven : MethodName := ⟨RX1, "enliven", "(I)V"⟩
abbrev cX1_take : ByteArray := prog_3_method_6_code
def yX1_take : MethodName := ⟨RX1, "take", "(LDotStores$State;)Z"⟩
abbrev cX1_takeDots : ByteArray := prog_3_method_7_code
def yX1_takeDots : MethodName := ⟨RX1, "takeDots", "(LDotStores$State;)Z"⟩
abbrev cX1_takeTwice : ByteArray := prog_3_method_8_code
def yX1_takeTwice : MethodName := ⟨RX1, "takeTwice", "(LDotStores$State;)Z"⟩
abbrev cX1_takeTimed : ByteArray := prog_3_method_9_code
def yX1_takeTimed : MethodName := ⟨RX1, "takeTimed", "(LDotStores$State;)Z"⟩
abbrev cX1_become : ByteArray := prog_3_method_10_code
def yX1_become : MethodName := ⟨RX1, "become", "(LDotStores$State;)V"⟩
abbrev cX1_isLike : ByteArray := prog_3_method_11_code
def yX1_isLike : MethodName := ⟨RX1, "isLike", "(LDotStores$State;)Z"⟩
def RX2 : String := "DotStores"
def TX2 : u_T := fun k => match k with
  | 0 => ("DotStores", "replicas", "[LDotStores$State;", true)
  | 1 => ("DotStores", "made", "[LDotStores$State;", true)
  | 2 => ("DotStores", "dots", "LDotStores$Dots;", true)
  | 3 => ("DotStores", "trial", "LDotStores$State;", true)
  | 4 => ("DotStores", "ordered", "[J", true)
  | _ => ("DotStores", "madeCount", "I", false)
def tyX2 : Nat → FieldType := fun k => match k with
  | 0 => .array (.object "DotStores$State")
  | 1 => .array (.object "DotStores$State")
  | 2 => .object "DotStores$Dots"
  | 3 => .object "DotStores$State"
  | 4 => .array .long
  | _ => .int
abbrev wsX20 : List Cond := u_ws RX2 TX2 6
theorem nmX2 : ∀ a, a < 6 → ∀ b, b < 6 → a ≠ b → (TX2 a).2.1 ≠ (TX2 b).2.1 := by decide +kernel
theorem tyX2_ok : ∀ k, k < 6 → parseFieldDescriptor (TX2 k).2.2.1 = some (tyX2 k) := by decide +kernel
abbrev cX2_init : ByteArray := prog_1_method_1_code
def yX2_init : MethodName := ⟨RX2, "<init>", "()V"⟩
abbrev cX2_element : ByteArray := prog_1_method_2_code
def yX2_element : MethodName := ⟨RX2, "element", "(IIIZ)I"⟩
abbrev cX2_write : ByteArray := prog_1_method_3_code
def yX2_write : MethodName := ⟨RX2, "write", "(IIJ)I"⟩
abbrev cX2_count : ByteArray := prog_1_method_4_code
def yX2_count : MethodName := ⟨RX2, "count", "(IIJ)I"⟩
abbrev cX2_flag : ByteArray := prog_1_method_5_code
def yX2_flag : MethodName := ⟨RX2, "flag", "(IIIZ)I"⟩
abbrev cX2_clear : ByteArray := prog_1_method_6_code
def yX2_clear : MethodName := ⟨RX2, "clear", "(II)I"⟩
abbrev cX2_twice : ByteArray := prog_1_method_7_code
def yX2_twice : MethodName := ⟨RX2, "twice", "(IIZ)I"⟩
abbrev cX2_timed : ByteArray := prog_1_method_8_code
def yX2_timed : MethodName := ⟨RX2, "timed", "(IIIZ)I"⟩
abbrev cX2_join : ByteArray := prog_1_method_9_code
def yX2_join : MethodName := ⟨RX2, "join", "(II)I"⟩
abbrev cX2_merge : ByteArray := prog_1_method_10_code
def yX2_merge : MethodName := ⟨RX2, "merge", "(II)I"⟩
abbrev cX2_group : ByteArray := prog_1_method_11_code
def yX2_group : MethodName := ⟨RX2, "group", "(II)I"⟩
abbrev cX2_whole : ByteArray := prog_1_method_12_code
def yX2_whole : MethodName := ⟨RX2, "whole", "(I)I"⟩
abbrev cX2_deltas : ByteArray := prog_1_method_13_code
def yX2_deltas : MethodName := ⟨RX2, "deltas", "()I"⟩
abbrev cX2_has : ByteArray := prog_1_method_14_code
def yX2_has : MethodName := ⟨RX2, "has", "(III)I"⟩
abbrev cX2_values : ByteArray := prog_1_method_15_code
def yX2_values : MethodName := ⟨RX2, "values", "(II)I"⟩
abbrev cX2_value : ByteArray := prog_1_method_16_code
def yX2_value : MethodName := ⟨RX2, "value", "(III)J"⟩
abbrev cX2_sum : ByteArray := prog_1_method_17_code
def yX2_sum : MethodName := ⟨RX2, "sum", "(II)J"⟩
abbrev cX2_keys : ByteArray := prog_1_method_18_code
def yX2_keys : MethodName := ⟨RX2, "keys", "(I)I"⟩
abbrev cX2_inTwice : ByteArray := prog_1_method_19_code
def yX2_inTwice : MethodName := ⟨RX2, "inTwice", "(II)I"⟩
abbrev cX2_inTimed : ByteArray := prog_1_method_20_code
def yX2_inTimed : MethodName := ⟨RX2, "inTimed", "(III)I"⟩
abbrev cX2_seen : ByteArray := prog_1_method_21_code
def yX2_seen : MethodName := ⟨RX2, "seen", "(III)I"⟩
abbrev cX2_size : ByteArray := prog_1_method_22_code
def yX2_size : MethodName := ⟨RX2, "size", "(II)I"⟩
abbrev cX2_same : ByteArray := prog_1_method_23_code
def yX2_same : MethodName := ⟨RX2, "same", "(II)I"⟩
abbrev cX2_below : ByteArray := prog_1_method_24_code
def yX2_below : MethodName := ⟨RX2, "below", "(II)I"⟩
abbrev cX2_replicaAt : ByteArray := prog_1_method_25_code
def yX2_replicaAt : MethodName := ⟨RX2, "replicaAt", "(I)LDotStores$State;"⟩
abbrev cX2_deltaAt : ByteArray := prog_1_method_26_code
def yX2_deltaAt : MethodName := ⟨RX2, "deltaAt", "(I)LDotStores$State;"⟩
abbrev cX2_requireIndex : ByteArray := prog_1_method_27_code
def yX2_requireIndex : MethodName := ⟨RX2, "requireIndex", "(II)V"⟩
abbrev cX2_requireKind : ByteArray := prog_1_method_28_code
def yX2_requireKind : MethodName := ⟨RX2, "requireKind", "(II)V"⟩
abbrev cX2_requireTime : ByteArray := prog_1_method_29_code
def yX2_requireTime : MethodName := ⟨RX2, "requireTime", "(I)V"⟩
abbrev cX2_requireDot : ByteArray := prog_1_method_30_code
def yX2_requireDot : MethodName := ⟨RX2, "requireDot", "(I)V"⟩
abbrev cX2_openDelta : ByteArray := prog_1_method_31_code
def yX2_openDelta : MethodName := ⟨RX2, "openDelta", "()LDotStores$State;"⟩
abbrev cX2_finish : ByteArray := prog_1_method_32_code
def yX2_finish : MethodName := ⟨RX2, "finish", "(LDotStores$State;LDotStores$State;)I"⟩
abbrev cX2_turn : ByteArray := prog_1_method_33_code
def yX2_turn : MethodName := ⟨RX2, "turn", "(LDotStores$State;IIIZ)I"⟩
abbrev cX2_takeBack : ByteArray := prog_1_method_34_code
def yX2_takeBack : MethodName := ⟨RX2, "takeBack", "(LDotStores$State;LDotStores$State;III)J"⟩
abbrev cX2_orderValues : ByteArray := prog_1_method_35_code
def yX2_orderValues : MethodName := ⟨RX2, "orderValues", "(LDotStores$State;I)I"⟩
abbrev cX2_orderValue : ByteArray := prog_1_method_36_code
def yX2_orderValue : MethodName := ⟨RX2, "orderValue", "(JI)I"⟩
abbrev cX2_stamp : ByteArray := prog_1_method_37_code
def yX2_stamp : MethodName := ⟨RX2, "stamp", "(IIZ)I"⟩
abbrev cX2_stampIsIn : ByteArray := prog_1_method_38_code
def yX2_stampIsIn : MethodName := ⟨RX2, "stampIsIn", "(I)Z"⟩
abbrev cX2_stampReplica : ByteArray := prog_1_method_39_code
def yX2_stampReplica : MethodName := ⟨RX2, "stampReplica", "(I)I"⟩
abbrev cX2_stampTime : ByteArray := prog_1_method_40_code
def yX2_stampTime : MethodName := ⟨RX2, "stampTime", "(I)I"⟩
abbrev cX2_bit : ByteArray := prog_1_method_41_code
def yX2_bit : MethodName := ⟨RX2, "bit", "(Z)I"⟩
abbrev cX2_bitsIn : ByteArray := prog_1_method_42_code
def yX2_bitsIn : MethodName := ⟨RX2, "bitsIn", "([J)I"⟩
def RX3 : String := "DotStoresModel"
def TX3 : u_T := fun k => match k with
  | 0 => ("DotStoresModel", "thrown", "I", false)
  | 1 => ("DotStoresModel", "deltas", "I", false)
  | 2 => ("DotStoresModel", "seen", "[J", true)
  | 3 => ("DotStoresModel", "live", "[J", true)
  | 4 => ("DotStoresModel", "put", "[I", true)
  | 5 => ("DotStoresModel", "taken", "[I", true)
  | 6 => ("DotStoresModel", "time", "[I", true)
  | 7 => ("DotStoresModel", "by", "[I", true)
  | 8 => ("DotStoresModel", "isIn", "[Z", true)
  | 9 => ("DotStoresModel", "dotKey", "[I", true)
  | 10 => ("DotStoresModel", "dotPart", "[I", true)
  | 11 => ("DotStoresModel", "dotValue", "[J", true)
  | 12 => ("DotStoresModel", "many", "I", false)
  | _ => ("DotStoresModel", "sorted", "[J", true)
def tyX3 : Nat → FieldType := fun k => match k with
  | 0 => .int
  | 1 => .int
  | 2 => .array .long
  | 3 => .array .long
  | 4 => .array .int
  | 5 => .array .int
  | 6 => .array .int
  | 7 => .array .int
  | 8 => .array .boolean
  | 9 => .array .int
  | 10 => .array .int
  | 11 => .array .long
  | 12 => .int
  | _ => .array .long
abbrev wsX30 : List Cond := u_ws RX3 TX3 14
theorem nmX3 : ∀ a, a < 14 → ∀ b, b < 14 → a ≠ b → (TX3 a).2.1 ≠ (TX3 b).2.1 := by decide +kernel
theorem tyX3_ok : ∀ k, k < 14 → parseFieldDescriptor (TX3 k).2.2.1 = some (tyX3 k) := by decide +kernel
abbrev cX3_init : ByteArray := prog_5_method_1_code
def yX3_init : MethodName := ⟨RX3, "<init>", "()V"⟩
abbrev cX3_thrown : ByteArray := prog_5_method_2_code
def yX3_thrown : MethodName := ⟨RX3, "thrown", "()I"⟩
abbrev cX3_in : ByteArray := prog_5_method_3_code
def yX3_in : MethodName := ⟨RX3, "in", "(III)Z"⟩
abbrev cX3_goes : ByteArray := prog_5_method_4_code
def yX3_goes : MethodName := ⟨RX3, "goes", "(Z)Z"⟩
abbrev cX3_dot : ByteArray := prog_5_method_5_code
def yX3_dot : MethodName := ⟨RX3, "dot", "(II)I"⟩
abbrev cX3_isSet : ByteArray := prog_5_method_6_code
def yX3_isSet : MethodName := ⟨RX3, "isSet", "([JIII)Z"⟩
abbrev cX3_set : ByteArray := prog_5_method_7_code
def yX3_set : MethodName := ⟨RX3, "set", "([JIII)V"⟩
abbrev cX3_greatest : ByteArray := prog_5_method_8_code
def yX3_greatest : MethodName := ⟨RX3, "greatest", "(II)I"⟩
abbrev cX3_empty : ByteArray := prog_5_method_9_code
def yX3_empty : MethodName := ⟨RX3, "empty", "(I)V"⟩
abbrev cX3_copy : ByteArray := prog_5_method_10_code
def yX3_copy : MethodName := ⟨RX3, "copy", "(II)V"⟩
abbrev cX3_copyTimed : ByteArray := prog_5_method_11_code
def yX3_copyTimed : MethodName := ⟨RX3, "copyTimed", "(II)V"⟩
abbrev cX3_isAfter : ByteArray := prog_5_method_12_code
def yX3_isAfter : MethodName := ⟨RX3, "isAfter", "(II)Z"⟩
abbrev cX3_isSame : ByteArray := prog_5_method_13_code
def yX3_isSame : MethodName := ⟨RX3, "isSame", "(II)Z"⟩
abbrev cX3_joinTo : ByteArray := prog_5_method_14_code
def yX3_joinTo : MethodName := ⟨RX3, "joinTo", "(II)V"⟩
abbrev cX3_joined : ByteArray := prog_5_method_15_code
def yX3_joined : MethodName := ⟨RX3, "joined", "(II)I"⟩
abbrev cX3_fresh : ByteArray := prog_5_method_16_code
def yX3_fresh : MethodName := ⟨RX3, "fresh", "()I"⟩
abbrev cX3_done : ByteArray := prog_5_method_17_code
def yX3_done : MethodName := ⟨RX3, "done", "(II)I"⟩
abbrev cX3_isReplica : ByteArray := prog_5_method_18_code
def yX3_isReplica : MethodName := ⟨RX3, "isReplica", "(I)Z"⟩
abbrev cX3_isKey : ByteArray := prog_5_method_19_code
def yX3_isKey : MethodName := ⟨RX3, "isKey", "(I)Z"⟩
abbrev cX3_isElement : ByteArray := prog_5_method_20_code
def yX3_isElement : MethodName := ⟨RX3, "isElement", "(I)Z"⟩
abbrev cX3_takeBack : ByteArray := prog_5_method_21_code
def yX3_takeBack : MethodName := ⟨RX3, "takeBack", "(IIIII)J"⟩
abbrev cX3_newDot : ByteArray := prog_5_method_22_code
def yX3_newDot : MethodName := ⟨RX3, "newDot", "(IIIIJ)V"⟩
abbrev cX3_hasRoom : ByteArray := prog_5_method_23_code
def yX3_hasRoom : MethodName := ⟨RX3, "hasRoom", "(IZ)Z"⟩
abbrev cX3_refusal : ByteArray := prog_5_method_24_code
def yX3_refusal : MethodName := ⟨RX3, "refusal", "(IIZIZ)I"⟩
abbrev cX3_change : ByteArray := prog_5_method_25_code
def yX3_change : MethodName := ⟨RX3, "change", "(IIIZ)I"⟩
abbrev cX3_element : ByteArray := prog_5_method_26_code
def yX3_element : MethodName := ⟨RX3, "element", "(IIIZ)I"⟩
abbrev cX3_write : ByteArray := prog_5_method_27_code
def yX3_write : MethodName := ⟨RX3, "write", "(IIJ)I"⟩
abbrev cX3_count : ByteArray := prog_5_method_28_code
def yX3_count : MethodName := ⟨RX3, "count", "(IIJ)I"⟩
abbrev cX3_flag : ByteArray := prog_5_method_29_code
def yX3_flag : MethodName := ⟨RX3, "flag", "(IIIZ)I"⟩
abbrev cX3_clear : ByteArray := prog_5_method_30_code
def yX3_clear : MethodName := ⟨RX3, "clear", "(II)I"⟩
abbrev cX3_twice : ByteArray := prog_5_method_31_code
def yX3_twice : MethodName := ⟨RX3, "twice", "(IIZ)I"⟩
abbrev cX3_timed : ByteArray := prog_5_method_32_code
def yX3_timed : MethodName := ⟨RX3, "timed", "(IIIZ)I"⟩
abbrev cX3_isDelta : ByteArray := prog_5_method_33_code
def yX3_isDelta : MethodName := ⟨RX3, "isDelta", "(I)Z"⟩
abbrev cX3_join : ByteArray := prog_5_method_34_code
def yX3_join : MethodName := ⟨RX3, "join", "(II)I"⟩
abbrev cX3_merge : ByteArray := prog_5_method_35_code
def yX3_merge : MethodName := ⟨RX3, "merge", "(II)I"⟩
abbrev cX3_group : ByteArray := prog_5_method_36_code
def yX3_group : MethodName := ⟨RX3, "group", "(II)I"⟩
abbrev cX3_whole : ByteArray := prog_5_method_37_code
def yX3_whole : MethodName := ⟨RX3, "whole", "(I)I"⟩
abbrev cX3_deltas : ByteArray := prog_5_method_38_code
def yX3_deltas : MethodName := ⟨RX3, "deltas", "()I"⟩
abbrev cX3_has : ByteArray := prog_5_method_39_code
def yX3_has : MethodName := ⟨RX3, "has", "(III)I"⟩
abbrev cX3_lay : ByteArray := prog_5_method_40_code
def yX3_lay : MethodName := ⟨RX3, "lay", "(II)V"⟩
abbrev cX3_enter : ByteArray := prog_5_method_41_code
def yX3_enter : MethodName := ⟨RX3, "enter", "(J)V"⟩
abbrev cX3_values : ByteArray := prog_5_method_42_code
def yX3_values : MethodName := ⟨RX3, "values", "(II)I"⟩
abbrev cX3_value : ByteArray := prog_5_method_43_code
def yX3_value : MethodName := ⟨RX3, "value", "(III)J"⟩
abbrev cX3_sum : ByteArray := prog_5_method_44_code
def yX3_sum : MethodName := ⟨RX3, "sum", "(II)J"⟩
abbrev cX3_keys : ByteArray := prog_5_method_45_code
def yX3_keys : MethodName := ⟨RX3, "keys", "(I)I"⟩
abbrev cX3_inTwice : ByteArray := prog_5_method_46_code
def yX3_inTwice : MethodName := ⟨RX3, "inTwice", "(II)I"⟩
abbrev cX3_inTimed : ByteArray := prog_5_method_47_code
def yX3_inTimed : MethodName := ⟨RX3, "inTimed", "(III)I"⟩
abbrev cX3_countOf : ByteArray := prog_5_method_48_code
def yX3_countOf : MethodName := ⟨RX3, "countOf", "([JII)I"⟩
abbrev cX3_seen : ByteArray := prog_5_method_49_code
def yX3_seen : MethodName := ⟨RX3, "seen", "(III)I"⟩
abbrev cX3_size : ByteArray := prog_5_method_50_code
def yX3_size : MethodName := ⟨RX3, "size", "(II)I"⟩
abbrev cX3_same : ByteArray := prog_5_method_51_code
def yX3_same : MethodName := ⟨RX3, "same", "(II)I"⟩
abbrev cX3_below : ByteArray := prog_5_method_52_code
def yX3_below : MethodName := ⟨RX3, "below", "(II)I"⟩
def RJ13 : String := "java/lang/Long"
def TJ13 : u_T := fun k => match k with
  | _ => ("", "", "", false)
def tyJ13 : Nat → FieldType := fun k => match k with
  | _ => .int
abbrev wsJ130 : List Cond := u_ws RJ13 TJ13 0
theorem nmJ13 : ∀ a, a < 0 → ∀ b, b < 0 → a ≠ b → (TJ13 a).2.1 ≠ (TJ13 b).2.1 := by decide +kernel
theorem tyJ13_ok : ∀ k, k < 0 → parseFieldDescriptor (TJ13 k).2.2.1 = some (tyJ13 k) := by decide +kernel
abbrev cJ13_bitCount_95d88 : ByteArray := prog_10_method_50_code
def yJ13_bitCount_95d88 : MethodName := ⟨RJ13, "bitCount", "(J)I"⟩
def RJ0 : String := "java/lang/String"
def TJ0 : u_T := fun k => match k with
  | _ => ("", "", "", false)
def tyJ0 : Nat → FieldType := fun k => match k with
  | _ => .int
abbrev wsJ00 : List Cond := u_ws RJ0 TJ0 0
theorem nmJ0 : ∀ a, a < 0 → ∀ b, b < 0 → a ≠ b → (TJ0 a).2.1 ≠ (TJ0 b).2.1 := by decide +kernel
theorem tyJ0_ok : ∀ k, k < 0 → parseFieldDescriptor (TJ0 k).2.2.1 = some (tyJ0 k) := by decide +kernel
def RJ10 : String := "java/lang/System"
def TJ10 : u_T := fun k => match k with
  | _ => ("", "", "", false)
def tyJ10 : Nat → FieldType := fun k => match k with
  | _ => .int
abbrev wsJ100 : List Cond := u_ws RJ10 TJ10 0
theorem nmJ10 : ∀ a, a < 0 → ∀ b, b < 0 → a ≠ b → (TJ10 a).2.1 ≠ (TJ10 b).2.1 := by decide +kernel
theorem tyJ10_ok : ∀ k, k < 0 → parseFieldDescriptor (TJ10 k).2.2.1 = some (tyJ10 k) := by decide +kernel
def wsX0_init : List Cond := .code yX0_init cX0_init 1 none :: ([.methodLink RX0 3 objectInit, .instanceMethod objectInit, .code objectInit ⟨#[0xb1]⟩ 1 none, .arrayClass .int, .fieldLink RX0 9 "DotStores$Dots" "replica" "[I", .fieldLink RX0 15 "DotStores$Dots" "number" "[I", .fieldLink RX0 18 "DotStores$Dots" "key" "[I", .fieldLink RX0 21 "DotStores$Dots" "part" "[I", .arrayClass .long, .fieldLink RX0 24 "DotStores$Dots" "value" "[J", .fieldLink RX0 28 "DotStores$Dots" "greatest" "[I", .fieldLink RX0 31 "DotStores$Dots" "count" "I"] ++ wsX00)
def wsX0_canMake : List Cond := .code yX0_canMake cX0_canMake 2 (some .boolean) :: ([.fieldLink RX0 31 "DotStores$Dots" "count" "I", .fieldLink RX0 28 "DotStores$Dots" "greatest" "[I"] ++ wsX00)
def wsX0_make : List Cond := .code yX0_make cX0_make 7 (some .int) :: ([.fieldLink RX0 31 "DotStores$Dots" "count" "I", .fieldLink RX0 28 "DotStores$Dots" "greatest" "[I", .fieldLink RX0 9 "DotStores$Dots" "replica" "[I", .fieldLink RX0 15 "DotStores$Dots" "number" "[I", .fieldLink RX0 18 "DotStores$Dots" "key" "[I", .fieldLink RX0 21 "DotStores$Dots" "part" "[I", .fieldLink RX0 24 "DotStores$Dots" "value" "[J"] ++ wsX00)
def wsX0_fits : List Cond := .code yX0_fits cX0_fits 5 (some .boolean) :: ([.fieldLink RX0 18 "DotStores$Dots" "key" "[I", .fieldLink RX0 21 "DotStores$Dots" "part" "[I", .fieldLink RX0 9 "DotStores$Dots" "replica" "[I"] ++ wsX00)
def wsX1_init : List Cond := .code yX1_init cX1_init 1 none :: ([.methodLink RX1 3 objectInit, .instanceMethod objectInit, .code objectInit ⟨#[0xb1]⟩ 1 none, .arrayClass .long, .fieldLink RX1 9 "DotStores$State" "seen" "[J", .fieldLink RX1 15 "DotStores$State" "live" "[J", .arrayClass .int, .fieldLink RX1 18 "DotStores$State" "stamps" "[I", .fieldLink RX1 22 "DotStores$State" "put" "I", .fieldLink RX1 26 "DotStores$State" "taken" "I"] ++ wsX10)
def wsX1_isSeen : List Cond := .code yX1_isSeen cX1_isSeen 2 (some .boolean) :: ([.fieldLink RX1 9 "DotStores$State" "seen" "[J"] ++ wsX10)
def wsX1_isLive : List Cond := .code yX1_isLive cX1_isLive 2 (some .boolean) :: ([.fieldLink RX1 15 "DotStores$State" "live" "[J"] ++ wsX10)
def wsX1_see : List Cond := .code yX1_see cX1_see 2 none :: ([.fieldLink RX1 9 "DotStores$State" "seen" "[J"] ++ wsX10)
def wsX1_enliven : List Cond := .code yX1_enliven cX1_enliven 2 none :: ([.fieldLink RX1 15 "DotStores$State" "live" "[J", .methodLink RX1 29 yX1_see, .instanceMethod yX1_see, .selects RX1 yX1_see yX1_see, .initialized RX1, .code yX1_see cX1_see 2 none, .fieldLink RX1 9 "DotStores$State" "seen" "[J"] ++ wsX10)
def wsX1_takeDots : List Cond := .code yX1_takeDots cX1_takeDots 10 (some .boolean) :: ([.fieldLink RX1 15 "DotStores$State" "live" "[J", .fieldLink RX1 9 "DotStores$State" "seen" "[J", .constantLong RX1 43 (-1)] ++ wsX10)
def wsX1_takeTwice : List Cond := .code yX1_takeTwice cX1_takeTwice 5 (some .boolean) :: ([.fieldLink RX1 22 "DotStores$State" "put" "I", .fieldLink RX1 26 "DotStores$State" "taken" "I"] ++ wsX10)
def wsX1_takeTimed : List Cond := .code yX1_takeTimed cX1_takeTimed 4 (some .boolean) :: ([.fieldLink RX1 18 "DotStores$State" "stamps" "[I"] ++ wsX10)
def wsX1_take : List Cond := .code yX1_take cX1_take 5 (some .boolean) :: ([.methodLink RX1 33 yX1_takeDots, .instanceMethod yX1_takeDots, .selects RX1 yX1_takeDots yX1_takeDots, .initialized RX1, .code yX1_takeDots cX1_takeDots 10 (some .boolean), .fieldLink RX1 15 "DotStores$State" "live" "[J", .fieldLink RX1 9 "DotStores$State" "seen" "[J", .constantLong RX1 43 (-1), .methodLink RX1 37 yX1_takeTwice, .instanceMethod yX1_takeTwice, .selects RX1 yX1_takeTwice yX1_takeTwice, .code yX1_takeTwice cX1_takeTwice 5 (some .boolean), .fieldLink RX1 22 "DotStores$State" "put" "I", .fieldLink RX1 26 "DotStores$State" "taken" "I", .methodLink RX1 40 yX1_takeTimed, .instanceMethod yX1_takeTimed, .selects RX1 yX1_takeTimed yX1_takeTimed, .code yX1_takeTimed cX1_takeTimed 4 (some .boolean), .fieldLink RX1 18 "DotStores$State" "stamps" "[I"] ++ wsX10)
def wsX1_become : List Cond := .code yX1_become cX1_become 2 none :: ([.fieldLink RX1 9 "DotStores$State" "seen" "[J", .methodLink RX1 45 arraycopyName, .native arraycopyName, .static arraycopyName, .initialized "java/lang/System", .fieldLink RX1 15 "DotStores$State" "live" "[J", .fieldLink RX1 18 "DotStores$State" "stamps" "[I", .fieldLink RX1 22 "DotStores$State" "put" "I", .fieldLink RX1 26 "DotStores$State" "taken" "I"] ++ wsX10)
def wsX1_isLike : List Cond := .code yX1_isLike cX1_isLike 4 (some .boolean) :: ([.fieldLink RX1 22 "DotStores$State" "put" "I", .fieldLink RX1 26 "DotStores$State" "taken" "I", .fieldLink RX1 9 "DotStores$State" "seen" "[J", .fieldLink RX1 15 "DotStores$State" "live" "[J", .fieldLink RX1 18 "DotStores$State" "stamps" "[I"] ++ wsX10)
def wsX2_init_r1 : List Cond := [Cond.methodLink RX2 3 objectInit, Cond.instanceMethod objectInit, Cond.code objectInit ⟨#[0xb1]⟩ 1 none, Cond.classLink RX2 9 RX1, Cond.fieldLink RX2 11 "DotStores" "replicas" "[LDotStores$State;", Cond.fieldLink RX2 15 "DotStores" "made" "[LDotStores$State;", Cond.classLink RX2 18 RX0, Cond.instantiable RX0 7, Cond.initialized RX0, Cond.fieldLink RX2 21 "DotStores" "dots" "LDotStores$Dots;", Cond.instantiable RX1 5, Cond.initialized RX1, Cond.fieldLink RX2 26 "DotStores" "trial" "LDotStores$State;", Cond.arrayClass .long, Cond.fieldLink RX2 30 "DotStores" "ordered" "[J", Cond.fieldLink RX2 34 "DotStores" "madeCount" "I", Cond.instanceMethod yX0_init, Cond.code yX0_init cX0_init 1 none, Cond.methodLink RX0 3 objectInit, Cond.arrayClass .int, Cond.fieldLink RX0 9 "DotStores$Dots" "replica" "[I", Cond.fieldLink RX0 15 "DotStores$Dots" "number" "[I", Cond.fieldLink RX0 18 "DotStores$Dots" "key" "[I", Cond.fieldLink RX0 21 "DotStores$Dots" "part" "[I"]
def wsX2_init_r2 : List Cond := [Cond.fieldLink RX0 24 "DotStores$Dots" "value" "[J", Cond.fieldLink RX0 28 "DotStores$Dots" "greatest" "[I", Cond.fieldLink RX0 31 "DotStores$Dots" "count" "I", Cond.instanceMethod yX1_init, Cond.code yX1_init cX1_init 1 none, Cond.methodLink RX1 3 objectInit, Cond.fieldLink RX1 9 "DotStores$State" "seen" "[J", Cond.fieldLink RX1 15 "DotStores$State" "live" "[J", Cond.fieldLink RX1 18 "DotStores$State" "stamps" "[I", Cond.fieldLink RX1 22 "DotStores$State" "put" "I", Cond.fieldLink RX1 26 "DotStores$State" "taken" "I"]
def wsX2_init : List Cond := .code yX2_init cX2_init 2 none :: ((wsX2_init_r1 ++ wsX2_init_r2) ++ wsX20 ++ wsX00 ++ wsX10)
def wsX2_replicaAt : List Cond := .code yX2_replicaAt cX2_replicaAt 2 (some (.object "DotStores$State")) :: ([.classLink RX2 161 "java/lang/IndexOutOfBoundsException", .initialized "java/lang/IndexOutOfBoundsException", .fieldLink RX2 11 "DotStores" "replicas" "[LDotStores$State;"] ++ wsX20 ++ (vx_atS RX2 165 "java/lang/IndexOutOfBoundsException" ["java/lang/RuntimeException", "java/lang/Exception"]).filter goodWord)
def wsX2_requireIndex : List Cond := .code yX2_requireIndex cX2_requireIndex 2 none :: ([.classLink RX2 161 "java/lang/IndexOutOfBoundsException", .initialized "java/lang/IndexOutOfBoundsException"] ++ (vx_atS RX2 165 "java/lang/IndexOutOfBoundsException" ["java/lang/RuntimeException", "java/lang/Exception"]).filter goodWord)
def wsX2_requireKind : List Cond := .code yX2_requireKind cX2_requireKind 2 none :: ([.classLink RX2 172 "java/lang/UnsupportedOperationException", .initialized "java/lang/UnsupportedOperationException"] ++ (vx_atS RX2 176 "java/lang/UnsupportedOperationException" ["java/lang/RuntimeException", "java/lang/Exception"]).filter goodWord)
def wsX2_requireDot : List Cond := .code yX2_requireDot cX2_requireDot 2 none :: ([.classLink RX2 186 "java/lang/IllegalStateException", .initialized "java/lang/IllegalStateException", .fieldLink RX2 21 "DotStores" "dots" "LDotStores$Dots;", .methodLink RX2 183 yX0_canMake, .instanceMethod yX0_canMake, .selects RX0 yX0_canMake yX0_canMake, .initialized RX0, .code yX0_canMake cX0_canMake 2 (some .boolean), .fieldLink RX0 31 "DotStores$Dots" "count" "I", .fieldLink RX0 28 "DotStores$Dots" "greatest" "[I"] ++ wsX20 ++ wsX00 ++ (vx_atS RX2 190 "java/lang/IllegalStateException" ["java/lang/RuntimeException", "java/lang/Exception"]).filter goodWord)
def wsX2_openDelta : List Cond := .code yX2_openDelta cX2_openDelta 2 (some (.object "DotStores$State")) :: ([.classLink RX2 186 "java/lang/IllegalStateException", .initialized "java/lang/IllegalStateException", .fieldLink RX2 34 "DotStores" "madeCount" "I", .fieldLink RX2 15 "DotStores" "made" "[LDotStores$State;", .classLink RX2 9 RX1, .instantiable RX1 5, .initialized RX1, .instanceMethod yX1_init, .code yX1_init cX1_init 1 none, .methodLink RX1 3 objectInit, .instanceMethod objectInit, .code objectInit ⟨#[0xb1]⟩ 1 none, .arrayClass .long, .fieldLink RX1 9 "DotStores$State" "seen" "[J", .fieldLink RX1 15 "DotStores$State" "live" "[J", .arrayClass .int, .fieldLink RX1 18 "DotStores$State" "stamps" "[I", .fieldLink RX1 22 "DotStores$State" "put" "I", .fieldLink RX1 26 "DotStores$State" "taken" "I"] ++ wsX20 ++ wsX10 ++ (vx_atS RX2 190 "java/lang/IllegalStateException" ["java/lang/RuntimeException", "java/lang/Exception"]).filter goodWord)
def wsX2_takeBack : List Cond := .code yX2_takeBack cX2_takeBack 9 (some .long) :: ([.fieldLink RX2 21 "DotStores" "dots" "LDotStores$Dots;", .fieldLink RX2 108 "DotStores$Dots" "count" "I", .fieldLink RX2 123 "DotStores$Dots" "value" "[J", .methodLink RX2 111 yX1_isLive, .instanceMethod yX1_isLive, .selects RX1 yX1_isLive yX1_isLive, .initialized RX1, .code yX1_isLive cX1_isLive 2 (some .boolean), .fieldLink RX1 15 "DotStores$State" "live" "[J", .methodLink RX2 115 yX0_fits, .instanceMethod yX0_fits, .selects RX0 yX0_fits yX0_fits, .initialized RX0, .code yX0_fits cX0_fits 5 (some .boolean), .fieldLink RX0 18 "DotStores$Dots" "key" "[I", .fieldLink RX0 21 "DotStores$Dots" "part" "[I", .fieldLink RX0 9 "DotStores$Dots" "replica" "[I", .methodLink RX2 193 yX1_see, .instanceMethod yX1_see, .selects RX1 yX1_see yX1_see, .code yX1_see cX1_see 2 none, .fieldLink RX1 9 "DotStores$State" "seen" "[J"] ++ wsX20 ++ wsX00 ++ wsX10)
def wsX2_finish : List Cond := .code yX2_finish cX2_finish 3 (some .int) :: ([.fieldLink RX2 34 "DotStores" "madeCount" "I", .methodLink RX2 96 yX1_take, .instanceMethod yX1_take, .selects RX1 yX1_take yX1_take, .initialized RX1, .code yX1_take cX1_take 5 (some .boolean), .methodLink RX1 33 yX1_takeDots, .instanceMethod yX1_takeDots, .selects RX1 yX1_takeDots yX1_takeDots, .code yX1_takeDots cX1_takeDots 10 (some .boolean), .fieldLink RX1 15 "DotStores$State" "live" "[J", .fieldLink RX1 9 "DotStores$State" "seen" "[J", .constantLong RX1 43 (-1), .methodLink RX1 37 yX1_takeTwice, .instanceMethod yX1_takeTwice, .selects RX1 yX1_takeTwice yX1_takeTwice, .code yX1_takeTwice cX1_takeTwice 5 (some .boolean), .fieldLink RX1 22 "DotStores$State" "put" "I", .fieldLink RX1 26 "DotStores$State" "taken" "I", .methodLink RX1 40 yX1_takeTimed, .instanceMethod yX1_takeTimed, .selects RX1 yX1_takeTimed yX1_takeTimed, .code yX1_takeTimed cX1_takeTimed 4 (some .boolean), .fieldLink RX1 18 "DotStores$State" "stamps" "[I"] ++ wsX20 ++ wsX10)
def wsX2_turn_r1 : List Cond := [Cond.fieldLink RX2 21 "DotStores" "dots" "LDotStores$Dots;", Cond.methodLink RX2 53 yX2_requireDot, Cond.instanceMethod yX2_requireDot, Cond.selects RX2 yX2_requireDot yX2_requireDot, Cond.initialized RX2, Cond.code yX2_requireDot cX2_requireDot 2 none, Cond.classLink RX2 186 "java/lang/IllegalStateException", Cond.initialized "java/lang/IllegalStateException", Cond.methodLink RX2 183 yX0_canMake, Cond.instanceMethod yX0_canMake, Cond.selects RX0 yX0_canMake yX0_canMake, Cond.initialized RX0, Cond.code yX0_canMake cX0_canMake 2 (some .boolean), Cond.fieldLink RX0 31 "DotStores$Dots" "count" "I", Cond.fieldLink RX0 28 "DotStores$Dots" "greatest" "[I", Cond.methodLink RX2 57 yX2_openDelta, Cond.instanceMethod yX2_openDelta, Cond.selects RX2 yX2_openDelta yX2_openDelta, Cond.code yX2_openDelta cX2_openDelta 2 (some (.object "DotStores$State")), Cond.fieldLink RX2 34 "DotStores" "madeCount" "I", Cond.fieldLink RX2 15 "DotStores" "made" "[LDotStores$State;", Cond.classLink RX2 9 RX1, Cond.instantiable RX1 5, Cond.initialized RX1]
def wsX2_turn_r2 : List Cond := [Cond.instanceMethod yX1_init, Cond.code yX1_init cX1_init 1 none, Cond.methodLink RX1 3 objectInit, Cond.instanceMethod objectInit, Cond.code objectInit ⟨#[0xb1]⟩ 1 none, Cond.arrayClass .long, Cond.fieldLink RX1 9 "DotStores$State" "seen" "[J", Cond.fieldLink RX1 15 "DotStores$State" "live" "[J", Cond.arrayClass .int, Cond.fieldLink RX1 18 "DotStores$State" "stamps" "[I", Cond.fieldLink RX1 22 "DotStores$State" "put" "I", Cond.fieldLink RX1 26 "DotStores$State" "taken" "I", Cond.methodLink RX2 61 yX2_takeBack, Cond.instanceMethod yX2_takeBack, Cond.selects RX2 yX2_takeBack yX2_takeBack, Cond.code yX2_takeBack cX2_takeBack 9 (some .long), Cond.fieldLink RX2 108 "DotStores$Dots" "count" "I", Cond.fieldLink RX2 123 "DotStores$Dots" "value" "[J", Cond.methodLink RX2 111 yX1_isLive, Cond.instanceMethod yX1_isLive, Cond.selects RX1 yX1_isLive yX1_isLive, Cond.code yX1_isLive cX1_isLive 2 (some .boolean), Cond.methodLink RX2 115 yX0_fits, Cond.instanceMethod yX0_fits]
def wsX2_turn_r3 : List Cond := [Cond.selects RX0 yX0_fits yX0_fits, Cond.code yX0_fits cX0_fits 5 (some .boolean), Cond.fieldLink RX0 18 "DotStores$Dots" "key" "[I", Cond.fieldLink RX0 21 "DotStores$Dots" "part" "[I", Cond.fieldLink RX0 9 "DotStores$Dots" "replica" "[I", Cond.methodLink RX2 193 yX1_see, Cond.instanceMethod yX1_see, Cond.selects RX1 yX1_see yX1_see, Cond.code yX1_see cX1_see 2 none, Cond.methodLink RX2 65 yX0_make, Cond.instanceMethod yX0_make, Cond.selects RX0 yX0_make yX0_make, Cond.code yX0_make cX0_make 7 (some .int), Cond.fieldLink RX0 15 "DotStores$Dots" "number" "[I", Cond.fieldLink RX0 24 "DotStores$Dots" "value" "[J", Cond.methodLink RX2 69 yX1_enliven, Cond.instanceMethod yX1_enliven, Cond.selects RX1 yX1_enliven yX1_enliven, Cond.code yX1_enliven cX1_enliven 2 none, Cond.methodLink RX1 29 yX1_see, Cond.methodLink RX2 72 yX2_finish, Cond.instanceMethod yX2_finish, Cond.selects RX2 yX2_finish yX2_finish, Cond.code yX2_finish cX2_finish 3 (some .int)]
def wsX2_turn_r4 : List Cond := [Cond.methodLink RX2 96 yX1_take, Cond.instanceMethod yX1_take, Cond.selects RX1 yX1_take yX1_take, Cond.code yX1_take cX1_take 5 (some .boolean), Cond.methodLink RX1 33 yX1_takeDots, Cond.instanceMethod yX1_takeDots, Cond.selects RX1 yX1_takeDots yX1_takeDots, Cond.code yX1_takeDots cX1_takeDots 10 (some .boolean), Cond.constantLong RX1 43 (-1), Cond.methodLink RX1 37 yX1_takeTwice, Cond.instanceMethod yX1_takeTwice, Cond.selects RX1 yX1_takeTwice yX1_takeTwice, Cond.code yX1_takeTwice cX1_takeTwice 5 (some .boolean), Cond.methodLink RX1 40 yX1_takeTimed, Cond.instanceMethod yX1_takeTimed, Cond.selects RX1 yX1_takeTimed yX1_takeTimed, Cond.code yX1_takeTimed cX1_takeTimed 4 (some .boolean)]
def wsX2_turn : List Cond := .code yX2_turn cX2_turn 7 (some .int) :: ((wsX2_turn_r1 ++ (wsX2_turn_r2 ++ (wsX2_turn_r3 ++ wsX2_turn_r4))) ++ wsX20 ++ wsX00 ++ wsX10 ++ (vx_atS RX2 190 "java/lang/IllegalStateException" ["java/lang/RuntimeException", "java/lang/Exception"]).filter goodWord)
def wsX2_element_r1 : List Cond := [Cond.methodLink RX2 38 yX2_replicaAt, Cond.instanceMethod yX2_replicaAt, Cond.selects RX2 yX2_replicaAt yX2_replicaAt, Cond.initialized RX2, Cond.code yX2_replicaAt cX2_replicaAt 2 (some (.object "DotStores$State")), Cond.classLink RX2 161 "java/lang/IndexOutOfBoundsException", Cond.initialized "java/lang/IndexOutOfBoundsException", Cond.fieldLink RX2 11 "DotStores" "replicas" "[LDotStores$State;", Cond.methodLink RX2 42 yX2_requireIndex, Cond.static yX2_requireIndex, Cond.code yX2_requireIndex cX2_requireIndex 2 none, Cond.methodLink RX2 46 yX2_requireKind, Cond.static yX2_requireKind, Cond.code yX2_requireKind cX2_requireKind 2 none, Cond.classLink RX2 172 "java/lang/UnsupportedOperationException", Cond.initialized "java/lang/UnsupportedOperationException", Cond.methodLink RX2 49 yX2_turn, Cond.instanceMethod yX2_turn, Cond.selects RX2 yX2_turn yX2_turn, Cond.code yX2_turn cX2_turn 7 (some .int), Cond.fieldLink RX2 21 "DotStores" "dots" "LDotStores$Dots;", Cond.methodLink RX2 53 yX2_requireDot, Cond.instanceMethod yX2_requireDot, Cond.selects RX2 yX2_requireDot yX2_requireDot]
def wsX2_element_r2 : List Cond := [Cond.code yX2_requireDot cX2_requireDot 2 none, Cond.classLink RX2 186 "java/lang/IllegalStateException", Cond.initialized "java/lang/IllegalStateException", Cond.methodLink RX2 183 yX0_canMake, Cond.instanceMethod yX0_canMake, Cond.selects RX0 yX0_canMake yX0_canMake, Cond.initialized RX0, Cond.code yX0_canMake cX0_canMake 2 (some .boolean), Cond.fieldLink RX0 31 "DotStores$Dots" "count" "I", Cond.fieldLink RX0 28 "DotStores$Dots" "greatest" "[I", Cond.methodLink RX2 57 yX2_openDelta, Cond.instanceMethod yX2_openDelta, Cond.selects RX2 yX2_openDelta yX2_openDelta, Cond.code yX2_openDelta cX2_openDelta 2 (some (.object "DotStores$State")), Cond.fieldLink RX2 34 "DotStores" "madeCount" "I", Cond.fieldLink RX2 15 "DotStores" "made" "[LDotStores$State;", Cond.classLink RX2 9 RX1, Cond.instantiable RX1 5, Cond.initialized RX1, Cond.instanceMethod yX1_init, Cond.code yX1_init cX1_init 1 none, Cond.methodLink RX1 3 objectInit, Cond.instanceMethod objectInit, Cond.code objectInit ⟨#[0xb1]⟩ 1 none]
def wsX2_element_r3 : List Cond := [Cond.arrayClass .long, Cond.fieldLink RX1 9 "DotStores$State" "seen" "[J", Cond.fieldLink RX1 15 "DotStores$State" "live" "[J", Cond.arrayClass .int, Cond.fieldLink RX1 18 "DotStores$State" "stamps" "[I", Cond.fieldLink RX1 22 "DotStores$State" "put" "I", Cond.fieldLink RX1 26 "DotStores$State" "taken" "I", Cond.methodLink RX2 61 yX2_takeBack, Cond.instanceMethod yX2_takeBack, Cond.selects RX2 yX2_takeBack yX2_takeBack, Cond.code yX2_takeBack cX2_takeBack 9 (some .long), Cond.fieldLink RX2 108 "DotStores$Dots" "count" "I", Cond.fieldLink RX2 123 "DotStores$Dots" "value" "[J", Cond.methodLink RX2 111 yX1_isLive, Cond.instanceMethod yX1_isLive, Cond.selects RX1 yX1_isLive yX1_isLive, Cond.code yX1_isLive cX1_isLive 2 (some .boolean), Cond.methodLink RX2 115 yX0_fits, Cond.instanceMethod yX0_fits, Cond.selects RX0 yX0_fits yX0_fits, Cond.code yX0_fits cX0_fits 5 (some .boolean), Cond.fieldLink RX0 18 "DotStores$Dots" "key" "[I", Cond.fieldLink RX0 21 "DotStores$Dots" "part" "[I", Cond.fieldLink RX0 9 "DotStores$Dots" "replica" "[I"]
def wsX2_element_r4 : List Cond := [Cond.methodLink RX2 193 yX1_see, Cond.instanceMethod yX1_see, Cond.selects RX1 yX1_see yX1_see, Cond.code yX1_see cX1_see 2 none, Cond.methodLink RX2 65 yX0_make, Cond.instanceMethod yX0_make, Cond.selects RX0 yX0_make yX0_make, Cond.code yX0_make cX0_make 7 (some .int), Cond.fieldLink RX0 15 "DotStores$Dots" "number" "[I", Cond.fieldLink RX0 24 "DotStores$Dots" "value" "[J", Cond.methodLink RX2 69 yX1_enliven, Cond.instanceMethod yX1_enliven, Cond.selects RX1 yX1_enliven yX1_enliven, Cond.code yX1_enliven cX1_enliven 2 none, Cond.methodLink RX1 29 yX1_see, Cond.methodLink RX2 72 yX2_finish, Cond.instanceMethod yX2_finish, Cond.selects RX2 yX2_finish yX2_finish, Cond.code yX2_finish cX2_finish 3 (some .int), Cond.methodLink RX2 96 yX1_take, Cond.instanceMethod yX1_take, Cond.selects RX1 yX1_take yX1_take, Cond.code yX1_take cX1_take 5 (some .boolean), Cond.methodLink RX1 33 yX1_takeDots]
def wsX2_element_r5 : List Cond := [Cond.instanceMethod yX1_takeDots, Cond.selects RX1 yX1_takeDots yX1_takeDots, Cond.code yX1_takeDots cX1_takeDots 10 (some .boolean), Cond.constantLong RX1 43 (-1), Cond.methodLink RX1 37 yX1_takeTwice, Cond.instanceMethod yX1_takeTwice, Cond.selects RX1 yX1_takeTwice yX1_takeTwice, Cond.code yX1_takeTwice cX1_takeTwice 5 (some .boolean), Cond.methodLink RX1 40 yX1_takeTimed, Cond.instanceMethod yX1_takeTimed, Cond.selects RX1 yX1_takeTimed yX1_takeTimed, Cond.code yX1_takeTimed cX1_takeTimed 4 (some .boolean)]
def wsX2_element : List Cond := .code yX2_element cX2_element 6 (some .int) :: ((wsX2_element_r1 ++ (wsX2_element_r2 ++ (wsX2_element_r3 ++ (wsX2_element_r4 ++ wsX2_element_r5)))) ++ wsX20 ++ wsX00 ++ wsX10 ++ (vx_atS RX2 165 "java/lang/IndexOutOfBoundsException" ["java/lang/RuntimeException", "java/lang/Exception"]).filter goodWord ++ (vx_atS RX2 176 "java/lang/UnsupportedOperationException" ["java/lang/RuntimeException", "java/lang/Exception"]).filter goodWord ++ (vx_atS RX2 190 "java/lang/IllegalStateException" ["java/lang/RuntimeException", "java/lang/Exception"]).filter goodWord)
def wsX2_write_r1 : List Cond := [Cond.fieldLink RX2 21 "DotStores" "dots" "LDotStores$Dots;", Cond.methodLink RX2 38 yX2_replicaAt, Cond.instanceMethod yX2_replicaAt, Cond.selects RX2 yX2_replicaAt yX2_replicaAt, Cond.initialized RX2, Cond.code yX2_replicaAt cX2_replicaAt 2 (some (.object "DotStores$State")), Cond.classLink RX2 161 "java/lang/IndexOutOfBoundsException", Cond.initialized "java/lang/IndexOutOfBoundsException", Cond.fieldLink RX2 11 "DotStores" "replicas" "[LDotStores$State;", Cond.methodLink RX2 42 yX2_requireIndex, Cond.static yX2_requireIndex, Cond.code yX2_requireIndex cX2_requireIndex 2 none, Cond.methodLink RX2 46 yX2_requireKind, Cond.static yX2_requireKind, Cond.code yX2_requireKind cX2_requireKind 2 none, Cond.classLink RX2 172 "java/lang/UnsupportedOperationException", Cond.initialized "java/lang/UnsupportedOperationException", Cond.methodLink RX2 53 yX2_requireDot, Cond.instanceMethod yX2_requireDot, Cond.selects RX2 yX2_requireDot yX2_requireDot, Cond.code yX2_requireDot cX2_requireDot 2 none, Cond.classLink RX2 186 "java/lang/IllegalStateException", Cond.initialized "java/lang/IllegalStateException", Cond.methodLink RX2 183 yX0_canMake]
def wsX2_write_r2 : List Cond := [Cond.instanceMethod yX0_canMake, Cond.selects RX0 yX0_canMake yX0_canMake, Cond.initialized RX0, Cond.code yX0_canMake cX0_canMake 2 (some .boolean), Cond.fieldLink RX0 31 "DotStores$Dots" "count" "I", Cond.fieldLink RX0 28 "DotStores$Dots" "greatest" "[I", Cond.methodLink RX2 57 yX2_openDelta, Cond.instanceMethod yX2_openDelta, Cond.selects RX2 yX2_openDelta yX2_openDelta, Cond.code yX2_openDelta cX2_openDelta 2 (some (.object "DotStores$State")), Cond.fieldLink RX2 34 "DotStores" "madeCount" "I", Cond.fieldLink RX2 15 "DotStores" "made" "[LDotStores$State;", Cond.classLink RX2 9 RX1, Cond.instantiable RX1 5, Cond.initialized RX1, Cond.instanceMethod yX1_init, Cond.code yX1_init cX1_init 1 none, Cond.methodLink RX1 3 objectInit, Cond.instanceMethod objectInit, Cond.code objectInit ⟨#[0xb1]⟩ 1 none, Cond.arrayClass .long, Cond.fieldLink RX1 9 "DotStores$State" "seen" "[J", Cond.fieldLink RX1 15 "DotStores$State" "live" "[J", Cond.arrayClass .int]
def wsX2_write_r3 : List Cond := [Cond.fieldLink RX1 18 "DotStores$State" "stamps" "[I", Cond.fieldLink RX1 22 "DotStores$State" "put" "I", Cond.fieldLink RX1 26 "DotStores$State" "taken" "I", Cond.methodLink RX2 61 yX2_takeBack, Cond.instanceMethod yX2_takeBack, Cond.selects RX2 yX2_takeBack yX2_takeBack, Cond.code yX2_takeBack cX2_takeBack 9 (some .long), Cond.fieldLink RX2 108 "DotStores$Dots" "count" "I", Cond.fieldLink RX2 123 "DotStores$Dots" "value" "[J", Cond.methodLink RX2 111 yX1_isLive, Cond.instanceMethod yX1_isLive, Cond.selects RX1 yX1_isLive yX1_isLive, Cond.code yX1_isLive cX1_isLive 2 (some .boolean), Cond.methodLink RX2 115 yX0_fits, Cond.instanceMethod yX0_fits, Cond.selects RX0 yX0_fits yX0_fits, Cond.code yX0_fits cX0_fits 5 (some .boolean), Cond.fieldLink RX0 18 "DotStores$Dots" "key" "[I", Cond.fieldLink RX0 21 "DotStores$Dots" "part" "[I", Cond.fieldLink RX0 9 "DotStores$Dots" "replica" "[I", Cond.methodLink RX2 193 yX1_see, Cond.instanceMethod yX1_see, Cond.selects RX1 yX1_see yX1_see, Cond.code yX1_see cX1_see 2 none]
def wsX2_write_r4 : List Cond := [Cond.methodLink RX2 65 yX0_make, Cond.instanceMethod yX0_make, Cond.selects RX0 yX0_make yX0_make, Cond.code yX0_make cX0_make 7 (some .int), Cond.fieldLink RX0 15 "DotStores$Dots" "number" "[I", Cond.fieldLink RX0 24 "DotStores$Dots" "value" "[J", Cond.methodLink RX2 69 yX1_enliven, Cond.instanceMethod yX1_enliven, Cond.selects RX1 yX1_enliven yX1_enliven, Cond.code yX1_enliven cX1_enliven 2 none, Cond.methodLink RX1 29 yX1_see, Cond.methodLink RX2 72 yX2_finish, Cond.instanceMethod yX2_finish, Cond.selects RX2 yX2_finish yX2_finish, Cond.code yX2_finish cX2_finish 3 (some .int), Cond.methodLink RX2 96 yX1_take, Cond.instanceMethod yX1_take, Cond.selects RX1 yX1_take yX1_take, Cond.code yX1_take cX1_take 5 (some .boolean), Cond.methodLink RX1 33 yX1_takeDots, Cond.instanceMethod yX1_takeDots, Cond.selects RX1 yX1_takeDots yX1_takeDots, Cond.code yX1_takeDots cX1_takeDots 10 (some .boolean), Cond.constantLong RX1 43 (-1)]
def wsX2_write_r5 : List Cond := [Cond.methodLink RX1 37 yX1_takeTwice, Cond.instanceMethod yX1_takeTwice, Cond.selects RX1 yX1_takeTwice yX1_takeTwice, Cond.code yX1_takeTwice cX1_takeTwice 5 (some .boolean), Cond.methodLink RX1 40 yX1_takeTimed, Cond.instanceMethod yX1_takeTimed, Cond.selects RX1 yX1_takeTimed yX1_takeTimed, Cond.code yX1_takeTimed cX1_takeTimed 4 (some .boolean)]
def wsX2_write : List Cond := .code yX2_write cX2_write 7 (some .int) :: ((wsX2_write_r1 ++ (wsX2_write_r2 ++ (wsX2_write_r3 ++ (wsX2_write_r4 ++ wsX2_write_r5)))) ++ wsX20 ++ wsX00 ++ wsX10 ++ (vx_atS RX2 165 "java/lang/IndexOutOfBoundsException" ["java/lang/RuntimeException", "java/lang/Exception"]).filter goodWord ++ (vx_atS RX2 176 "java/lang/UnsupportedOperationException" ["java/lang/RuntimeException", "java/lang/Exception"]).filter goodWord ++ (vx_atS RX2 190 "java/lang/IllegalStateException" ["java/lang/RuntimeException", "java/lang/Exception"]).filter goodWord)
def wsX2_count_r1 : List Cond := [Cond.fieldLink RX2 21 "DotStores" "dots" "LDotStores$Dots;", Cond.methodLink RX2 38 yX2_replicaAt, Cond.instanceMethod yX2_replicaAt, Cond.selects RX2 yX2_replicaAt yX2_replicaAt, Cond.initialized RX2, Cond.code yX2_replicaAt cX2_replicaAt 2 (some (.object "DotStores$State")), Cond.classLink RX2 161 "java/lang/IndexOutOfBoundsException", Cond.initialized "java/lang/IndexOutOfBoundsException", Cond.fieldLink RX2 11 "DotStores" "replicas" "[LDotStores$State;", Cond.methodLink RX2 42 yX2_requireIndex, Cond.static yX2_requireIndex, Cond.code yX2_requireIndex cX2_requireIndex 2 none, Cond.methodLink RX2 46 yX2_requireKind, Cond.static yX2_requireKind, Cond.code yX2_requireKind cX2_requireKind 2 none, Cond.classLink RX2 172 "java/lang/UnsupportedOperationException", Cond.initialized "java/lang/UnsupportedOperationException", Cond.methodLink RX2 53 yX2_requireDot, Cond.instanceMethod yX2_requireDot, Cond.selects RX2 yX2_requireDot yX2_requireDot, Cond.code yX2_requireDot cX2_requireDot 2 none, Cond.classLink RX2 186 "java/lang/IllegalStateException", Cond.initialized "java/lang/IllegalStateException", Cond.methodLink RX2 183 yX0_canMake]
def wsX2_count_r2 : List Cond := [Cond.instanceMethod yX0_canMake, Cond.selects RX0 yX0_canMake yX0_canMake, Cond.initialized RX0, Cond.code yX0_canMake cX0_canMake 2 (some .boolean), Cond.fieldLink RX0 31 "DotStores$Dots" "count" "I", Cond.fieldLink RX0 28 "DotStores$Dots" "greatest" "[I", Cond.methodLink RX2 57 yX2_openDelta, Cond.instanceMethod yX2_openDelta, Cond.selects RX2 yX2_openDelta yX2_openDelta, Cond.code yX2_openDelta cX2_openDelta 2 (some (.object "DotStores$State")), Cond.fieldLink RX2 34 "DotStores" "madeCount" "I", Cond.fieldLink RX2 15 "DotStores" "made" "[LDotStores$State;", Cond.classLink RX2 9 RX1, Cond.instantiable RX1 5, Cond.initialized RX1, Cond.instanceMethod yX1_init, Cond.code yX1_init cX1_init 1 none, Cond.methodLink RX1 3 objectInit, Cond.instanceMethod objectInit, Cond.code objectInit ⟨#[0xb1]⟩ 1 none, Cond.arrayClass .long, Cond.fieldLink RX1 9 "DotStores$State" "seen" "[J", Cond.fieldLink RX1 15 "DotStores$State" "live" "[J", Cond.arrayClass .int]
def wsX2_count_r3 : List Cond := [Cond.fieldLink RX1 18 "DotStores$State" "stamps" "[I", Cond.fieldLink RX1 22 "DotStores$State" "put" "I", Cond.fieldLink RX1 26 "DotStores$State" "taken" "I", Cond.methodLink RX2 61 yX2_takeBack, Cond.instanceMethod yX2_takeBack, Cond.selects RX2 yX2_takeBack yX2_takeBack, Cond.code yX2_takeBack cX2_takeBack 9 (some .long), Cond.fieldLink RX2 108 "DotStores$Dots" "count" "I", Cond.fieldLink RX2 123 "DotStores$Dots" "value" "[J", Cond.methodLink RX2 111 yX1_isLive, Cond.instanceMethod yX1_isLive, Cond.selects RX1 yX1_isLive yX1_isLive, Cond.code yX1_isLive cX1_isLive 2 (some .boolean), Cond.methodLink RX2 115 yX0_fits, Cond.instanceMethod yX0_fits, Cond.selects RX0 yX0_fits yX0_fits, Cond.code yX0_fits cX0_fits 5 (some .boolean), Cond.fieldLink RX0 18 "DotStores$Dots" "key" "[I", Cond.fieldLink RX0 21 "DotStores$Dots" "part" "[I", Cond.fieldLink RX0 9 "DotStores$Dots" "replica" "[I", Cond.methodLink RX2 193 yX1_see, Cond.instanceMethod yX1_see, Cond.selects RX1 yX1_see yX1_see, Cond.code yX1_see cX1_see 2 none]
def wsX2_count_r4 : List Cond := [Cond.methodLink RX2 65 yX0_make, Cond.instanceMethod yX0_make, Cond.selects RX0 yX0_make yX0_make, Cond.code yX0_make cX0_make 7 (some .int), Cond.fieldLink RX0 15 "DotStores$Dots" "number" "[I", Cond.fieldLink RX0 24 "DotStores$Dots" "value" "[J", Cond.methodLink RX2 69 yX1_enliven, Cond.instanceMethod yX1_enliven, Cond.selects RX1 yX1_enliven yX1_enliven, Cond.code yX1_enliven cX1_enliven 2 none, Cond.methodLink RX1 29 yX1_see, Cond.methodLink RX2 72 yX2_finish, Cond.instanceMethod yX2_finish, Cond.selects RX2 yX2_finish yX2_finish, Cond.code yX2_finish cX2_finish 3 (some .int), Cond.methodLink RX2 96 yX1_take, Cond.instanceMethod yX1_take, Cond.selects RX1 yX1_take yX1_take, Cond.code yX1_take cX1_take 5 (some .boolean), Cond.methodLink RX1 33 yX1_takeDots, Cond.instanceMethod yX1_takeDots, Cond.selects RX1 yX1_takeDots yX1_takeDots, Cond.code yX1_takeDots cX1_takeDots 10 (some .boolean), Cond.constantLong RX1 43 (-1)]
def wsX2_count_r5 : List Cond := [Cond.methodLink RX1 37 yX1_takeTwice, Cond.instanceMethod yX1_takeTwice, Cond.selects RX1 yX1_takeTwice yX1_takeTwice, Cond.code yX1_takeTwice cX1_takeTwice 5 (some .boolean), Cond.methodLink RX1 40 yX1_takeTimed, Cond.instanceMethod yX1_takeTimed, Cond.selects RX1 yX1_takeTimed yX1_takeTimed, Cond.code yX1_takeTimed cX1_takeTimed 4 (some .boolean)]
def wsX2_count : List Cond := .code yX2_count cX2_count 9 (some .int) :: ((wsX2_count_r1 ++ (wsX2_count_r2 ++ (wsX2_count_r3 ++ (wsX2_count_r4 ++ wsX2_count_r5)))) ++ wsX20 ++ wsX00 ++ wsX10 ++ (vx_atS RX2 165 "java/lang/IndexOutOfBoundsException" ["java/lang/RuntimeException", "java/lang/Exception"]).filter goodWord ++ (vx_atS RX2 176 "java/lang/UnsupportedOperationException" ["java/lang/RuntimeException", "java/lang/Exception"]).filter goodWord ++ (vx_atS RX2 190 "java/lang/IllegalStateException" ["java/lang/RuntimeException", "java/lang/Exception"]).filter goodWord)
def wsX2_flag_r1 : List Cond := [Cond.methodLink RX2 38 yX2_replicaAt, Cond.instanceMethod yX2_replicaAt, Cond.selects RX2 yX2_replicaAt yX2_replicaAt, Cond.initialized RX2, Cond.code yX2_replicaAt cX2_replicaAt 2 (some (.object "DotStores$State")), Cond.classLink RX2 161 "java/lang/IndexOutOfBoundsException", Cond.initialized "java/lang/IndexOutOfBoundsException", Cond.fieldLink RX2 11 "DotStores" "replicas" "[LDotStores$State;", Cond.methodLink RX2 42 yX2_requireIndex, Cond.static yX2_requireIndex, Cond.code yX2_requireIndex cX2_requireIndex 2 none, Cond.methodLink RX2 46 yX2_requireKind, Cond.static yX2_requireKind, Cond.code yX2_requireKind cX2_requireKind 2 none, Cond.classLink RX2 172 "java/lang/UnsupportedOperationException", Cond.initialized "java/lang/UnsupportedOperationException", Cond.methodLink RX2 49 yX2_turn, Cond.instanceMethod yX2_turn, Cond.selects RX2 yX2_turn yX2_turn, Cond.code yX2_turn cX2_turn 7 (some .int), Cond.fieldLink RX2 21 "DotStores" "dots" "LDotStores$Dots;", Cond.methodLink RX2 53 yX2_requireDot, Cond.instanceMethod yX2_requireDot, Cond.selects RX2 yX2_requireDot yX2_requireDot]
def wsX2_flag_r2 : List Cond := [Cond.code yX2_requireDot cX2_requireDot 2 none, Cond.classLink RX2 186 "java/lang/IllegalStateException", Cond.initialized "java/lang/IllegalStateException", Cond.methodLink RX2 183 yX0_canMake, Cond.instanceMethod yX0_canMake, Cond.selects RX0 yX0_canMake yX0_canMake, Cond.initialized RX0, Cond.code yX0_canMake cX0_canMake 2 (some .boolean), Cond.fieldLink RX0 31 "DotStores$Dots" "count" "I", Cond.fieldLink RX0 28 "DotStores$Dots" "greatest" "[I", Cond.methodLink RX2 57 yX2_openDelta, Cond.instanceMethod yX2_openDelta, Cond.selects RX2 yX2_openDelta yX2_openDelta, Cond.code yX2_openDelta cX2_openDelta 2 (some (.object "DotStores$State")), Cond.fieldLink RX2 34 "DotStores" "madeCount" "I", Cond.fieldLink RX2 15 "DotStores" "made" "[LDotStores$State;", Cond.classLink RX2 9 RX1, Cond.instantiable RX1 5, Cond.initialized RX1, Cond.instanceMethod yX1_init, Cond.code yX1_init cX1_init 1 none, Cond.methodLink RX1 3 objectInit, Cond.instanceMethod objectInit, Cond.code objectInit ⟨#[0xb1]⟩ 1 none]
def wsX2_flag_r3 : List Cond := [Cond.arrayClass .long, Cond.fieldLink RX1 9 "DotStores$State" "seen" "[J", Cond.fieldLink RX1 15 "DotStores$State" "live" "[J", Cond.arrayClass .int, Cond.fieldLink RX1 18 "DotStores$State" "stamps" "[I", Cond.fieldLink RX1 22 "DotStores$State" "put" "I", Cond.fieldLink RX1 26 "DotStores$State" "taken" "I", Cond.methodLink RX2 61 yX2_takeBack, Cond.instanceMethod yX2_takeBack, Cond.selects RX2 yX2_takeBack yX2_takeBack, Cond.code yX2_takeBack cX2_takeBack 9 (some .long), Cond.fieldLink RX2 108 "DotStores$Dots" "count" "I", Cond.fieldLink RX2 123 "DotStores$Dots" "value" "[J", Cond.methodLink RX2 111 yX1_isLive, Cond.instanceMethod yX1_isLive, Cond.selects RX1 yX1_isLive yX1_isLive, Cond.code yX1_isLive cX1_isLive 2 (some .boolean), Cond.methodLink RX2 115 yX0_fits, Cond.instanceMethod yX0_fits, Cond.selects RX0 yX0_fits yX0_fits, Cond.code yX0_fits cX0_fits 5 (some .boolean), Cond.fieldLink RX0 18 "DotStores$Dots" "key" "[I", Cond.fieldLink RX0 21 "DotStores$Dots" "part" "[I", Cond.fieldLink RX0 9 "DotStores$Dots" "replica" "[I"]
def wsX2_flag_r4 : List Cond := [Cond.methodLink RX2 193 yX1_see, Cond.instanceMethod yX1_see, Cond.selects RX1 yX1_see yX1_see, Cond.code yX1_see cX1_see 2 none, Cond.methodLink RX2 65 yX0_make, Cond.instanceMethod yX0_make, Cond.selects RX0 yX0_make yX0_make, Cond.code yX0_make cX0_make 7 (some .int), Cond.fieldLink RX0 15 "DotStores$Dots" "number" "[I", Cond.fieldLink RX0 24 "DotStores$Dots" "value" "[J", Cond.methodLink RX2 69 yX1_enliven, Cond.instanceMethod yX1_enliven, Cond.selects RX1 yX1_enliven yX1_enliven, Cond.code yX1_enliven cX1_enliven 2 none, Cond.methodLink RX1 29 yX1_see, Cond.methodLink RX2 72 yX2_finish, Cond.instanceMethod yX2_finish, Cond.selects RX2 yX2_finish yX2_finish, Cond.code yX2_finish cX2_finish 3 (some .int), Cond.methodLink RX2 96 yX1_take, Cond.instanceMethod yX1_take, Cond.selects RX1 yX1_take yX1_take, Cond.code yX1_take cX1_take 5 (some .boolean), Cond.methodLink RX1 33 yX1_takeDots]
def wsX2_flag_r5 : List Cond := [Cond.instanceMethod yX1_takeDots, Cond.selects RX1 yX1_takeDots yX1_takeDots, Cond.code yX1_takeDots cX1_takeDots 10 (some .boolean), Cond.constantLong RX1 43 (-1), Cond.methodLink RX1 37 yX1_takeTwice, Cond.instanceMethod yX1_takeTwice, Cond.selects RX1 yX1_takeTwice yX1_takeTwice, Cond.code yX1_takeTwice cX1_takeTwice 5 (some .boolean), Cond.methodLink RX1 40 yX1_takeTimed, Cond.instanceMethod yX1_takeTimed, Cond.selects RX1 yX1_takeTimed yX1_takeTimed, Cond.code yX1_takeTimed cX1_takeTimed 4 (some .boolean)]
def wsX2_flag : List Cond := .code yX2_flag cX2_flag 6 (some .int) :: ((wsX2_flag_r1 ++ (wsX2_flag_r2 ++ (wsX2_flag_r3 ++ (wsX2_flag_r4 ++ wsX2_flag_r5)))) ++ wsX20 ++ wsX00 ++ wsX10 ++ (vx_atS RX2 165 "java/lang/IndexOutOfBoundsException" ["java/lang/RuntimeException", "java/lang/Exception"]).filter goodWord ++ (vx_atS RX2 176 "java/lang/UnsupportedOperationException" ["java/lang/RuntimeException", "java/lang/Exception"]).filter goodWord ++ (vx_atS RX2 190 "java/lang/IllegalStateException" ["java/lang/RuntimeException", "java/lang/Exception"]).filter goodWord)
def wsX2_clear_r1 : List Cond := [Cond.methodLink RX2 38 yX2_replicaAt, Cond.instanceMethod yX2_replicaAt, Cond.selects RX2 yX2_replicaAt yX2_replicaAt, Cond.initialized RX2, Cond.code yX2_replicaAt cX2_replicaAt 2 (some (.object "DotStores$State")), Cond.classLink RX2 161 "java/lang/IndexOutOfBoundsException", Cond.initialized "java/lang/IndexOutOfBoundsException", Cond.fieldLink RX2 11 "DotStores" "replicas" "[LDotStores$State;", Cond.methodLink RX2 42 yX2_requireIndex, Cond.static yX2_requireIndex, Cond.code yX2_requireIndex cX2_requireIndex 2 none, Cond.methodLink RX2 57 yX2_openDelta, Cond.instanceMethod yX2_openDelta, Cond.selects RX2 yX2_openDelta yX2_openDelta, Cond.code yX2_openDelta cX2_openDelta 2 (some (.object "DotStores$State")), Cond.classLink RX2 186 "java/lang/IllegalStateException", Cond.initialized "java/lang/IllegalStateException", Cond.fieldLink RX2 34 "DotStores" "madeCount" "I", Cond.fieldLink RX2 15 "DotStores" "made" "[LDotStores$State;", Cond.classLink RX2 9 RX1, Cond.instantiable RX1 5, Cond.initialized RX1, Cond.instanceMethod yX1_init, Cond.code yX1_init cX1_init 1 none]
def wsX2_clear_r2 : List Cond := [Cond.methodLink RX1 3 objectInit, Cond.instanceMethod objectInit, Cond.code objectInit ⟨#[0xb1]⟩ 1 none, Cond.arrayClass .long, Cond.fieldLink RX1 9 "DotStores$State" "seen" "[J", Cond.fieldLink RX1 15 "DotStores$State" "live" "[J", Cond.arrayClass .int, Cond.fieldLink RX1 18 "DotStores$State" "stamps" "[I", Cond.fieldLink RX1 22 "DotStores$State" "put" "I", Cond.fieldLink RX1 26 "DotStores$State" "taken" "I", Cond.methodLink RX2 61 yX2_takeBack, Cond.instanceMethod yX2_takeBack, Cond.selects RX2 yX2_takeBack yX2_takeBack, Cond.code yX2_takeBack cX2_takeBack 9 (some .long), Cond.fieldLink RX2 21 "DotStores" "dots" "LDotStores$Dots;", Cond.fieldLink RX2 108 "DotStores$Dots" "count" "I", Cond.fieldLink RX2 123 "DotStores$Dots" "value" "[J", Cond.methodLink RX2 111 yX1_isLive, Cond.instanceMethod yX1_isLive, Cond.selects RX1 yX1_isLive yX1_isLive, Cond.code yX1_isLive cX1_isLive 2 (some .boolean), Cond.methodLink RX2 115 yX0_fits, Cond.instanceMethod yX0_fits, Cond.selects RX0 yX0_fits yX0_fits]
def wsX2_clear_r3 : List Cond := [Cond.initialized RX0, Cond.code yX0_fits cX0_fits 5 (some .boolean), Cond.fieldLink RX0 18 "DotStores$Dots" "key" "[I", Cond.fieldLink RX0 21 "DotStores$Dots" "part" "[I", Cond.fieldLink RX0 9 "DotStores$Dots" "replica" "[I", Cond.methodLink RX2 193 yX1_see, Cond.instanceMethod yX1_see, Cond.selects RX1 yX1_see yX1_see, Cond.code yX1_see cX1_see 2 none, Cond.methodLink RX2 72 yX2_finish, Cond.instanceMethod yX2_finish, Cond.selects RX2 yX2_finish yX2_finish, Cond.code yX2_finish cX2_finish 3 (some .int), Cond.methodLink RX2 96 yX1_take, Cond.instanceMethod yX1_take, Cond.selects RX1 yX1_take yX1_take, Cond.code yX1_take cX1_take 5 (some .boolean), Cond.methodLink RX1 33 yX1_takeDots, Cond.instanceMethod yX1_takeDots, Cond.selects RX1 yX1_takeDots yX1_takeDots, Cond.code yX1_takeDots cX1_takeDots 10 (some .boolean), Cond.constantLong RX1 43 (-1), Cond.methodLink RX1 37 yX1_takeTwice, Cond.instanceMethod yX1_takeTwice]
def wsX2_clear_r4 : List Cond := [Cond.selects RX1 yX1_takeTwice yX1_takeTwice, Cond.code yX1_takeTwice cX1_takeTwice 5 (some .boolean), Cond.methodLink RX1 40 yX1_takeTimed, Cond.instanceMethod yX1_takeTimed, Cond.selects RX1 yX1_takeTimed yX1_takeTimed, Cond.code yX1_takeTimed cX1_takeTimed 4 (some .boolean)]
def wsX2_clear : List Cond := .code yX2_clear cX2_clear 5 (some .int) :: ((wsX2_clear_r1 ++ (wsX2_clear_r2 ++ (wsX2_clear_r3 ++ wsX2_clear_r4))) ++ wsX20 ++ wsX10 ++ wsX00 ++ (vx_atS RX2 165 "java/lang/IndexOutOfBoundsException" ["java/lang/RuntimeException", "java/lang/Exception"]).filter goodWord ++ (vx_atS RX2 190 "java/lang/IllegalStateException" ["java/lang/RuntimeException", "java/lang/Exception"]).filter goodWord)
def wsX2_twice_r1 : List Cond := [Cond.fieldLink RX2 76 "DotStores$State" "put" "I", Cond.fieldLink RX2 79 "DotStores$State" "taken" "I", Cond.methodLink RX2 38 yX2_replicaAt, Cond.instanceMethod yX2_replicaAt, Cond.selects RX2 yX2_replicaAt yX2_replicaAt, Cond.initialized RX2, Cond.code yX2_replicaAt cX2_replicaAt 2 (some (.object "DotStores$State")), Cond.classLink RX2 161 "java/lang/IndexOutOfBoundsException", Cond.initialized "java/lang/IndexOutOfBoundsException", Cond.fieldLink RX2 11 "DotStores" "replicas" "[LDotStores$State;", Cond.methodLink RX2 42 yX2_requireIndex, Cond.static yX2_requireIndex, Cond.code yX2_requireIndex cX2_requireIndex 2 none, Cond.methodLink RX2 57 yX2_openDelta, Cond.instanceMethod yX2_openDelta, Cond.selects RX2 yX2_openDelta yX2_openDelta, Cond.code yX2_openDelta cX2_openDelta 2 (some (.object "DotStores$State")), Cond.classLink RX2 186 "java/lang/IllegalStateException", Cond.initialized "java/lang/IllegalStateException", Cond.fieldLink RX2 34 "DotStores" "madeCount" "I", Cond.fieldLink RX2 15 "DotStores" "made" "[LDotStores$State;", Cond.classLink RX2 9 RX1, Cond.instantiable RX1 5, Cond.initialized RX1]
def wsX2_twice_r2 : List Cond := [Cond.instanceMethod yX1_init, Cond.code yX1_init cX1_init 1 none, Cond.methodLink RX1 3 objectInit, Cond.instanceMethod objectInit, Cond.code objectInit ⟨#[0xb1]⟩ 1 none, Cond.arrayClass .long, Cond.fieldLink RX1 9 "DotStores$State" "seen" "[J", Cond.fieldLink RX1 15 "DotStores$State" "live" "[J", Cond.arrayClass .int, Cond.fieldLink RX1 18 "DotStores$State" "stamps" "[I", Cond.fieldLink RX1 22 "DotStores$State" "put" "I", Cond.fieldLink RX1 26 "DotStores$State" "taken" "I", Cond.methodLink RX2 72 yX2_finish, Cond.instanceMethod yX2_finish, Cond.selects RX2 yX2_finish yX2_finish, Cond.code yX2_finish cX2_finish 3 (some .int), Cond.methodLink RX2 96 yX1_take, Cond.instanceMethod yX1_take, Cond.selects RX1 yX1_take yX1_take, Cond.code yX1_take cX1_take 5 (some .boolean), Cond.methodLink RX1 33 yX1_takeDots, Cond.instanceMethod yX1_takeDots, Cond.selects RX1 yX1_takeDots yX1_takeDots, Cond.code yX1_takeDots cX1_takeDots 10 (some .boolean)]
def wsX2_twice_r3 : List Cond := [Cond.constantLong RX1 43 (-1), Cond.methodLink RX1 37 yX1_takeTwice, Cond.instanceMethod yX1_takeTwice, Cond.selects RX1 yX1_takeTwice yX1_takeTwice, Cond.code yX1_takeTwice cX1_takeTwice 5 (some .boolean), Cond.methodLink RX1 40 yX1_takeTimed, Cond.instanceMethod yX1_takeTimed, Cond.selects RX1 yX1_takeTimed yX1_takeTimed, Cond.code yX1_takeTimed cX1_takeTimed 4 (some .boolean)]
def wsX2_twice : List Cond := .code yX2_twice cX2_twice 6 (some .int) :: ((wsX2_twice_r1 ++ (wsX2_twice_r2 ++ wsX2_twice_r3)) ++ wsX10 ++ wsX20 ++ (vx_atS RX2 165 "java/lang/IndexOutOfBoundsException" ["java/lang/RuntimeException", "java/lang/Exception"]).filter goodWord ++ (vx_atS RX2 190 "java/lang/IllegalStateException" ["java/lang/RuntimeException", "java/lang/Exception"]).filter goodWord)
def wsX2_requireTime : List Cond := .code yX2_requireTime cX2_requireTime 1 none :: ([.classLink RX2 178 "java/lang/IllegalArgumentException", .initialized "java/lang/IllegalArgumentException", .constant RX2 177 (1000000)] ++ (vx_atS RX2 182 "java/lang/IllegalArgumentException" ["java/lang/RuntimeException", "java/lang/Exception"]).filter goodWord)
def wsX2_bit : List Cond := .code yX2_bit cX2_bit 1 (some .int) :: ([])
def wsX2_stamp : List Cond := .code yX2_stamp cX2_stamp 3 (some .int) :: ([.methodLink RX2 100 yX2_bit, .static yX2_bit, .initialized RX2, .code yX2_bit cX2_bit 1 (some .int)])
def wsX2_timed_r1 : List Cond := [Cond.fieldLink RX2 85 "DotStores$State" "stamps" "[I", Cond.methodLink RX2 38 yX2_replicaAt, Cond.instanceMethod yX2_replicaAt, Cond.selects RX2 yX2_replicaAt yX2_replicaAt, Cond.initialized RX2, Cond.code yX2_replicaAt cX2_replicaAt 2 (some (.object "DotStores$State")), Cond.classLink RX2 161 "java/lang/IndexOutOfBoundsException", Cond.initialized "java/lang/IndexOutOfBoundsException", Cond.fieldLink RX2 11 "DotStores" "replicas" "[LDotStores$State;", Cond.methodLink RX2 42 yX2_requireIndex, Cond.static yX2_requireIndex, Cond.code yX2_requireIndex cX2_requireIndex 2 none, Cond.methodLink RX2 82 yX2_requireTime, Cond.static yX2_requireTime, Cond.code yX2_requireTime cX2_requireTime 1 none, Cond.classLink RX2 178 "java/lang/IllegalArgumentException", Cond.initialized "java/lang/IllegalArgumentException", Cond.constant RX2 177 (1000000), Cond.methodLink RX2 57 yX2_openDelta, Cond.instanceMethod yX2_openDelta, Cond.selects RX2 yX2_openDelta yX2_openDelta, Cond.code yX2_openDelta cX2_openDelta 2 (some (.object "DotStores$State")), Cond.classLink RX2 186 "java/lang/IllegalStateException", Cond.initialized "java/lang/IllegalStateException"]
def wsX2_timed_r2 : List Cond := [Cond.fieldLink RX2 34 "DotStores" "madeCount" "I", Cond.fieldLink RX2 15 "DotStores" "made" "[LDotStores$State;", Cond.classLink RX2 9 RX1, Cond.instantiable RX1 5, Cond.initialized RX1, Cond.instanceMethod yX1_init, Cond.code yX1_init cX1_init 1 none, Cond.methodLink RX1 3 objectInit, Cond.instanceMethod objectInit, Cond.code objectInit ⟨#[0xb1]⟩ 1 none, Cond.arrayClass .long, Cond.fieldLink RX1 9 "DotStores$State" "seen" "[J", Cond.fieldLink RX1 15 "DotStores$State" "live" "[J", Cond.arrayClass .int, Cond.fieldLink RX1 18 "DotStores$State" "stamps" "[I", Cond.fieldLink RX1 22 "DotStores$State" "put" "I", Cond.fieldLink RX1 26 "DotStores$State" "taken" "I", Cond.methodLink RX2 89 yX2_stamp, Cond.static yX2_stamp, Cond.code yX2_stamp cX2_stamp 3 (some .int), Cond.methodLink RX2 100 yX2_bit, Cond.static yX2_bit, Cond.code yX2_bit cX2_bit 1 (some .int), Cond.methodLink RX2 72 yX2_finish]
def wsX2_timed_r3 : List Cond := [Cond.instanceMethod yX2_finish, Cond.selects RX2 yX2_finish yX2_finish, Cond.code yX2_finish cX2_finish 3 (some .int), Cond.methodLink RX2 96 yX1_take, Cond.instanceMethod yX1_take, Cond.selects RX1 yX1_take yX1_take, Cond.code yX1_take cX1_take 5 (some .boolean), Cond.methodLink RX1 33 yX1_takeDots, Cond.instanceMethod yX1_takeDots, Cond.selects RX1 yX1_takeDots yX1_takeDots, Cond.code yX1_takeDots cX1_takeDots 10 (some .boolean), Cond.constantLong RX1 43 (-1), Cond.methodLink RX1 37 yX1_takeTwice, Cond.instanceMethod yX1_takeTwice, Cond.selects RX1 yX1_takeTwice yX1_takeTwice, Cond.code yX1_takeTwice cX1_takeTwice 5 (some .boolean), Cond.methodLink RX1 40 yX1_takeTimed, Cond.instanceMethod yX1_takeTimed, Cond.selects RX1 yX1_takeTimed yX1_takeTimed, Cond.code yX1_takeTimed cX1_takeTimed 4 (some .boolean)]
def wsX2_timed : List Cond := .code yX2_timed cX2_timed 7 (some .int) :: ((wsX2_timed_r1 ++ (wsX2_timed_r2 ++ wsX2_timed_r3)) ++ wsX10 ++ wsX20 ++ (vx_atS RX2 165 "java/lang/IndexOutOfBoundsException" ["java/lang/RuntimeException", "java/lang/Exception"]).filter goodWord ++ (vx_atS RX2 182 "java/lang/IllegalArgumentException" ["java/lang/RuntimeException", "java/lang/Exception"]).filter goodWord ++ (vx_atS RX2 190 "java/lang/IllegalStateException" ["java/lang/RuntimeException", "java/lang/Exception"]).filter goodWord)
def wsX2_deltaAt : List Cond := .code yX2_deltaAt cX2_deltaAt 2 (some (.object "DotStores$State")) :: ([.classLink RX2 161 "java/lang/IndexOutOfBoundsException", .initialized "java/lang/IndexOutOfBoundsException", .fieldLink RX2 15 "DotStores" "made" "[LDotStores$State;"] ++ wsX20 ++ (vx_atS RX2 165 "java/lang/IndexOutOfBoundsException" ["java/lang/RuntimeException", "java/lang/Exception"]).filter goodWord)
def wsX2_join_r1 : List Cond := [Cond.methodLink RX2 38 yX2_replicaAt, Cond.instanceMethod yX2_replicaAt, Cond.selects RX2 yX2_replicaAt yX2_replicaAt, Cond.initialized RX2, Cond.code yX2_replicaAt cX2_replicaAt 2 (some (.object "DotStores$State")), Cond.classLink RX2 161 "java/lang/IndexOutOfBoundsException", Cond.initialized "java/lang/IndexOutOfBoundsException", Cond.fieldLink RX2 11 "DotStores" "replicas" "[LDotStores$State;", Cond.methodLink RX2 93 yX2_deltaAt, Cond.instanceMethod yX2_deltaAt, Cond.selects RX2 yX2_deltaAt yX2_deltaAt, Cond.code yX2_deltaAt cX2_deltaAt 2 (some (.object "DotStores$State")), Cond.fieldLink RX2 15 "DotStores" "made" "[LDotStores$State;", Cond.methodLink RX2 96 yX1_take, Cond.instanceMethod yX1_take, Cond.selects RX1 yX1_take yX1_take, Cond.initialized RX1, Cond.code yX1_take cX1_take 5 (some .boolean), Cond.methodLink RX1 33 yX1_takeDots, Cond.instanceMethod yX1_takeDots, Cond.selects RX1 yX1_takeDots yX1_takeDots, Cond.code yX1_takeDots cX1_takeDots 10 (some .boolean), Cond.fieldLink RX1 15 "DotStores$State" "live" "[J", Cond.fieldLink RX1 9 "DotStores$State" "seen" "[J"]
def wsX2_join_r2 : List Cond := [Cond.constantLong RX1 43 (-1), Cond.methodLink RX1 37 yX1_takeTwice, Cond.instanceMethod yX1_takeTwice, Cond.selects RX1 yX1_takeTwice yX1_takeTwice, Cond.code yX1_takeTwice cX1_takeTwice 5 (some .boolean), Cond.fieldLink RX1 22 "DotStores$State" "put" "I", Cond.fieldLink RX1 26 "DotStores$State" "taken" "I", Cond.methodLink RX1 40 yX1_takeTimed, Cond.instanceMethod yX1_takeTimed, Cond.selects RX1 yX1_takeTimed yX1_takeTimed, Cond.code yX1_takeTimed cX1_takeTimed 4 (some .boolean), Cond.fieldLink RX1 18 "DotStores$State" "stamps" "[I", Cond.methodLink RX2 100 yX2_bit, Cond.static yX2_bit, Cond.code yX2_bit cX2_bit 1 (some .int)]
def wsX2_join : List Cond := .code yX2_join cX2_join 4 (some .int) :: ((wsX2_join_r1 ++ wsX2_join_r2) ++ wsX20 ++ wsX10 ++ (vx_atS RX2 165 "java/lang/IndexOutOfBoundsException" ["java/lang/RuntimeException", "java/lang/Exception"]).filter goodWord)
def wsX2_merge_r1 : List Cond := [Cond.methodLink RX2 38 yX2_replicaAt, Cond.instanceMethod yX2_replicaAt, Cond.selects RX2 yX2_replicaAt yX2_replicaAt, Cond.initialized RX2, Cond.code yX2_replicaAt cX2_replicaAt 2 (some (.object "DotStores$State")), Cond.classLink RX2 161 "java/lang/IndexOutOfBoundsException", Cond.initialized "java/lang/IndexOutOfBoundsException", Cond.fieldLink RX2 11 "DotStores" "replicas" "[LDotStores$State;", Cond.methodLink RX2 96 yX1_take, Cond.instanceMethod yX1_take, Cond.selects RX1 yX1_take yX1_take, Cond.initialized RX1, Cond.code yX1_take cX1_take 5 (some .boolean), Cond.methodLink RX1 33 yX1_takeDots, Cond.instanceMethod yX1_takeDots, Cond.selects RX1 yX1_takeDots yX1_takeDots, Cond.code yX1_takeDots cX1_takeDots 10 (some .boolean), Cond.fieldLink RX1 15 "DotStores$State" "live" "[J", Cond.fieldLink RX1 9 "DotStores$State" "seen" "[J", Cond.constantLong RX1 43 (-1), Cond.methodLink RX1 37 yX1_takeTwice, Cond.instanceMethod yX1_takeTwice, Cond.selects RX1 yX1_takeTwice yX1_takeTwice, Cond.code yX1_takeTwice cX1_takeTwice 5 (some .boolean)]
def wsX2_merge_r2 : List Cond := [Cond.fieldLink RX1 22 "DotStores$State" "put" "I", Cond.fieldLink RX1 26 "DotStores$State" "taken" "I", Cond.methodLink RX1 40 yX1_takeTimed, Cond.instanceMethod yX1_takeTimed, Cond.selects RX1 yX1_takeTimed yX1_takeTimed, Cond.code yX1_takeTimed cX1_takeTimed 4 (some .boolean), Cond.fieldLink RX1 18 "DotStores$State" "stamps" "[I", Cond.methodLink RX2 100 yX2_bit, Cond.static yX2_bit, Cond.code yX2_bit cX2_bit 1 (some .int)]
def wsX2_merge : List Cond := .code yX2_merge cX2_merge 4 (some .int) :: ((wsX2_merge_r1 ++ wsX2_merge_r2) ++ wsX20 ++ wsX10 ++ (vx_atS RX2 165 "java/lang/IndexOutOfBoundsException" ["java/lang/RuntimeException", "java/lang/Exception"]).filter goodWord)
def wsX2_group_r1 : List Cond := [Cond.fieldLink RX2 34 "DotStores" "madeCount" "I", Cond.methodLink RX2 93 yX2_deltaAt, Cond.instanceMethod yX2_deltaAt, Cond.selects RX2 yX2_deltaAt yX2_deltaAt, Cond.initialized RX2, Cond.code yX2_deltaAt cX2_deltaAt 2 (some (.object "DotStores$State")), Cond.classLink RX2 161 "java/lang/IndexOutOfBoundsException", Cond.initialized "java/lang/IndexOutOfBoundsException", Cond.fieldLink RX2 15 "DotStores" "made" "[LDotStores$State;", Cond.methodLink RX2 57 yX2_openDelta, Cond.instanceMethod yX2_openDelta, Cond.selects RX2 yX2_openDelta yX2_openDelta, Cond.code yX2_openDelta cX2_openDelta 2 (some (.object "DotStores$State")), Cond.classLink RX2 186 "java/lang/IllegalStateException", Cond.initialized "java/lang/IllegalStateException", Cond.classLink RX2 9 RX1, Cond.instantiable RX1 5, Cond.initialized RX1, Cond.instanceMethod yX1_init, Cond.code yX1_init cX1_init 1 none, Cond.methodLink RX1 3 objectInit, Cond.instanceMethod objectInit, Cond.code objectInit ⟨#[0xb1]⟩ 1 none, Cond.arrayClass .long]
def wsX2_group_r2 : List Cond := [Cond.fieldLink RX1 9 "DotStores$State" "seen" "[J", Cond.fieldLink RX1 15 "DotStores$State" "live" "[J", Cond.arrayClass .int, Cond.fieldLink RX1 18 "DotStores$State" "stamps" "[I", Cond.fieldLink RX1 22 "DotStores$State" "put" "I", Cond.fieldLink RX1 26 "DotStores$State" "taken" "I", Cond.methodLink RX2 104 yX1_become, Cond.instanceMethod yX1_become, Cond.selects RX1 yX1_become yX1_become, Cond.code yX1_become cX1_become 2 none, Cond.methodLink RX1 45 arraycopyName, Cond.native arraycopyName, Cond.static arraycopyName, Cond.initialized "java/lang/System", Cond.methodLink RX2 96 yX1_take, Cond.instanceMethod yX1_take, Cond.selects RX1 yX1_take yX1_take, Cond.code yX1_take cX1_take 5 (some .boolean), Cond.methodLink RX1 33 yX1_takeDots, Cond.instanceMethod yX1_takeDots, Cond.selects RX1 yX1_takeDots yX1_takeDots, Cond.code yX1_takeDots cX1_takeDots 10 (some .boolean), Cond.constantLong RX1 43 (-1), Cond.methodLink RX1 37 yX1_takeTwice]
def wsX2_group_r3 : List Cond := [Cond.instanceMethod yX1_takeTwice, Cond.selects RX1 yX1_takeTwice yX1_takeTwice, Cond.code yX1_takeTwice cX1_takeTwice 5 (some .boolean), Cond.methodLink RX1 40 yX1_takeTimed, Cond.instanceMethod yX1_takeTimed, Cond.selects RX1 yX1_takeTimed yX1_takeTimed, Cond.code yX1_takeTimed cX1_takeTimed 4 (some .boolean)]
def wsX2_group : List Cond := .code yX2_group cX2_group 6 (some .int) :: ((wsX2_group_r1 ++ (wsX2_group_r2 ++ wsX2_group_r3)) ++ wsX20 ++ wsX10 ++ (vx_atS RX2 165 "java/lang/IndexOutOfBoundsException" ["java/lang/RuntimeException", "java/lang/Exception"]).filter goodWord ++ (vx_atS RX2 190 "java/lang/IllegalStateException" ["java/lang/RuntimeException", "java/lang/Exception"]).filter goodWord)
def wsX2_whole_r1 : List Cond := [Cond.fieldLink RX2 34 "DotStores" "madeCount" "I", Cond.methodLink RX2 38 yX2_replicaAt, Cond.instanceMethod yX2_replicaAt, Cond.selects RX2 yX2_replicaAt yX2_replicaAt, Cond.initialized RX2, Cond.code yX2_replicaAt cX2_replicaAt 2 (some (.object "DotStores$State")), Cond.classLink RX2 161 "java/lang/IndexOutOfBoundsException", Cond.initialized "java/lang/IndexOutOfBoundsException", Cond.fieldLink RX2 11 "DotStores" "replicas" "[LDotStores$State;", Cond.methodLink RX2 57 yX2_openDelta, Cond.instanceMethod yX2_openDelta, Cond.selects RX2 yX2_openDelta yX2_openDelta, Cond.code yX2_openDelta cX2_openDelta 2 (some (.object "DotStores$State")), Cond.classLink RX2 186 "java/lang/IllegalStateException", Cond.initialized "java/lang/IllegalStateException", Cond.fieldLink RX2 15 "DotStores" "made" "[LDotStores$State;", Cond.classLink RX2 9 RX1, Cond.instantiable RX1 5, Cond.initialized RX1, Cond.instanceMethod yX1_init, Cond.code yX1_init cX1_init 1 none, Cond.methodLink RX1 3 objectInit, Cond.instanceMethod objectInit, Cond.code objectInit ⟨#[0xb1]⟩ 1 none]
def wsX2_whole_r2 : List Cond := [Cond.arrayClass .long, Cond.fieldLink RX1 9 "DotStores$State" "seen" "[J", Cond.fieldLink RX1 15 "DotStores$State" "live" "[J", Cond.arrayClass .int, Cond.fieldLink RX1 18 "DotStores$State" "stamps" "[I", Cond.fieldLink RX1 22 "DotStores$State" "put" "I", Cond.fieldLink RX1 26 "DotStores$State" "taken" "I", Cond.methodLink RX2 104 yX1_become, Cond.instanceMethod yX1_become, Cond.selects RX1 yX1_become yX1_become, Cond.code yX1_become cX1_become 2 none, Cond.methodLink RX1 45 arraycopyName, Cond.native arraycopyName, Cond.static arraycopyName, Cond.initialized "java/lang/System"]
def wsX2_whole : List Cond := .code yX2_whole cX2_whole 3 (some .int) :: ((wsX2_whole_r1 ++ wsX2_whole_r2) ++ wsX20 ++ wsX10 ++ (vx_atS RX2 165 "java/lang/IndexOutOfBoundsException" ["java/lang/RuntimeException", "java/lang/Exception"]).filter goodWord ++ (vx_atS RX2 190 "java/lang/IllegalStateException" ["java/lang/RuntimeException", "java/lang/Exception"]).filter goodWord)
def wsX2_deltas : List Cond := .code yX2_deltas cX2_deltas 1 (some .int) :: ([.fieldLink RX2 34 "DotStores" "madeCount" "I"] ++ wsX20)
def wsX2_has_r1 : List Cond := [Cond.fieldLink RX2 21 "DotStores" "dots" "LDotStores$Dots;", Cond.fieldLink RX2 108 "DotStores$Dots" "count" "I", Cond.methodLink RX2 38 yX2_replicaAt, Cond.instanceMethod yX2_replicaAt, Cond.selects RX2 yX2_replicaAt yX2_replicaAt, Cond.initialized RX2, Cond.code yX2_replicaAt cX2_replicaAt 2 (some (.object "DotStores$State")), Cond.classLink RX2 161 "java/lang/IndexOutOfBoundsException", Cond.initialized "java/lang/IndexOutOfBoundsException", Cond.fieldLink RX2 11 "DotStores" "replicas" "[LDotStores$State;", Cond.methodLink RX2 42 yX2_requireIndex, Cond.static yX2_requireIndex, Cond.code yX2_requireIndex cX2_requireIndex 2 none, Cond.methodLink RX2 111 yX1_isLive, Cond.instanceMethod yX1_isLive, Cond.selects RX1 yX1_isLive yX1_isLive, Cond.initialized RX1, Cond.code yX1_isLive cX1_isLive 2 (some .boolean), Cond.fieldLink RX1 15 "DotStores$State" "live" "[J", Cond.methodLink RX2 115 yX0_fits, Cond.instanceMethod yX0_fits, Cond.selects RX0 yX0_fits yX0_fits, Cond.initialized RX0, Cond.code yX0_fits cX0_fits 5 (some .boolean)]
def wsX2_has_r2 : List Cond := [Cond.fieldLink RX0 18 "DotStores$Dots" "key" "[I", Cond.fieldLink RX0 21 "DotStores$Dots" "part" "[I", Cond.fieldLink RX0 9 "DotStores$Dots" "replica" "[I"]
def wsX2_has : List Cond := .code yX2_has cX2_has 6 (some .int) :: ((wsX2_has_r1 ++ wsX2_has_r2) ++ wsX20 ++ wsX00 ++ wsX10 ++ (vx_atS RX2 165 "java/lang/IndexOutOfBoundsException" ["java/lang/RuntimeException", "java/lang/Exception"]).filter goodWord)
def wsX2_orderValue : List Cond := .code yX2_orderValue cX2_orderValue 6 (some .int) :: ([.fieldLink RX2 30 "DotStores" "ordered" "[J"] ++ wsX20)
def wsX2_orderValues : List Cond := .code yX2_orderValues cX2_orderValues 5 (some .int) :: ([.fieldLink RX2 21 "DotStores" "dots" "LDotStores$Dots;", .fieldLink RX2 108 "DotStores$Dots" "count" "I", .fieldLink RX2 123 "DotStores$Dots" "value" "[J", .methodLink RX2 111 yX1_isLive, .instanceMethod yX1_isLive, .selects RX1 yX1_isLive yX1_isLive, .initialized RX1, .code yX1_isLive cX1_isLive 2 (some .boolean), .fieldLink RX1 15 "DotStores$State" "live" "[J", .methodLink RX2 115 yX0_fits, .instanceMethod yX0_fits, .selects RX0 yX0_fits yX0_fits, .initialized RX0, .code yX0_fits cX0_fits 5 (some .boolean), .fieldLink RX0 18 "DotStores$Dots" "key" "[I", .fieldLink RX0 21 "DotStores$Dots" "part" "[I", .fieldLink RX0 9 "DotStores$Dots" "replica" "[I", .methodLink RX2 196 yX2_orderValue, .instanceMethod yX2_orderValue, .selects RX2 yX2_orderValue yX2_orderValue, .initialized RX2, .code yX2_orderValue cX2_orderValue 6 (some .int), .fieldLink RX2 30 "DotStores" "ordered" "[J"] ++ wsX20 ++ wsX00 ++ wsX10)
def wsX2_values_r1 : List Cond := [Cond.methodLink RX2 38 yX2_replicaAt, Cond.instanceMethod yX2_replicaAt, Cond.selects RX2 yX2_replicaAt yX2_replicaAt, Cond.initialized RX2, Cond.code yX2_replicaAt cX2_replicaAt 2 (some (.object "DotStores$State")), Cond.classLink RX2 161 "java/lang/IndexOutOfBoundsException", Cond.initialized "java/lang/IndexOutOfBoundsException", Cond.fieldLink RX2 11 "DotStores" "replicas" "[LDotStores$State;", Cond.methodLink RX2 42 yX2_requireIndex, Cond.static yX2_requireIndex, Cond.code yX2_requireIndex cX2_requireIndex 2 none, Cond.methodLink RX2 119 yX2_orderValues, Cond.instanceMethod yX2_orderValues, Cond.selects RX2 yX2_orderValues yX2_orderValues, Cond.code yX2_orderValues cX2_orderValues 5 (some .int), Cond.fieldLink RX2 21 "DotStores" "dots" "LDotStores$Dots;", Cond.fieldLink RX2 108 "DotStores$Dots" "count" "I", Cond.fieldLink RX2 123 "DotStores$Dots" "value" "[J", Cond.methodLink RX2 111 yX1_isLive, Cond.instanceMethod yX1_isLive, Cond.selects RX1 yX1_isLive yX1_isLive, Cond.initialized RX1, Cond.code yX1_isLive cX1_isLive 2 (some .boolean), Cond.fieldLink RX1 15 "DotStores$State" "live" "[J"]
def wsX2_values_r2 : List Cond := [Cond.methodLink RX2 115 yX0_fits, Cond.instanceMethod yX0_fits, Cond.selects RX0 yX0_fits yX0_fits, Cond.initialized RX0, Cond.code yX0_fits cX0_fits 5 (some .boolean), Cond.fieldLink RX0 18 "DotStores$Dots" "key" "[I", Cond.fieldLink RX0 21 "DotStores$Dots" "part" "[I", Cond.fieldLink RX0 9 "DotStores$Dots" "replica" "[I", Cond.methodLink RX2 196 yX2_orderValue, Cond.instanceMethod yX2_orderValue, Cond.selects RX2 yX2_orderValue yX2_orderValue, Cond.code yX2_orderValue cX2_orderValue 6 (some .int), Cond.fieldLink RX2 30 "DotStores" "ordered" "[J"]
def wsX2_values : List Cond := .code yX2_values cX2_values 4 (some .int) :: ((wsX2_values_r1 ++ wsX2_values_r2) ++ wsX20 ++ wsX00 ++ wsX10 ++ (vx_atS RX2 165 "java/lang/IndexOutOfBoundsException" ["java/lang/RuntimeException", "java/lang/Exception"]).filter goodWord)
def wsX2_value_r1 : List Cond := [Cond.fieldLink RX2 30 "DotStores" "ordered" "[J", Cond.methodLink RX2 38 yX2_replicaAt, Cond.instanceMethod yX2_replicaAt, Cond.selects RX2 yX2_replicaAt yX2_replicaAt, Cond.initialized RX2, Cond.code yX2_replicaAt cX2_replicaAt 2 (some (.object "DotStores$State")), Cond.classLink RX2 161 "java/lang/IndexOutOfBoundsException", Cond.initialized "java/lang/IndexOutOfBoundsException", Cond.fieldLink RX2 11 "DotStores" "replicas" "[LDotStores$State;", Cond.methodLink RX2 42 yX2_requireIndex, Cond.static yX2_requireIndex, Cond.code yX2_requireIndex cX2_requireIndex 2 none, Cond.methodLink RX2 119 yX2_orderValues, Cond.instanceMethod yX2_orderValues, Cond.selects RX2 yX2_orderValues yX2_orderValues, Cond.code yX2_orderValues cX2_orderValues 5 (some .int), Cond.fieldLink RX2 21 "DotStores" "dots" "LDotStores$Dots;", Cond.fieldLink RX2 108 "DotStores$Dots" "count" "I", Cond.fieldLink RX2 123 "DotStores$Dots" "value" "[J", Cond.methodLink RX2 111 yX1_isLive, Cond.instanceMethod yX1_isLive, Cond.selects RX1 yX1_isLive yX1_isLive, Cond.initialized RX1, Cond.code yX1_isLive cX1_isLive 2 (some .boolean)]
def wsX2_value_r2 : List Cond := [Cond.fieldLink RX1 15 "DotStores$State" "live" "[J", Cond.methodLink RX2 115 yX0_fits, Cond.instanceMethod yX0_fits, Cond.selects RX0 yX0_fits yX0_fits, Cond.initialized RX0, Cond.code yX0_fits cX0_fits 5 (some .boolean), Cond.fieldLink RX0 18 "DotStores$Dots" "key" "[I", Cond.fieldLink RX0 21 "DotStores$Dots" "part" "[I", Cond.fieldLink RX0 9 "DotStores$Dots" "replica" "[I", Cond.methodLink RX2 196 yX2_orderValue, Cond.instanceMethod yX2_orderValue, Cond.selects RX2 yX2_orderValue yX2_orderValue, Cond.code yX2_orderValue cX2_orderValue 6 (some .int)]
def wsX2_value : List Cond := .code yX2_value cX2_value 5 (some .long) :: ((wsX2_value_r1 ++ wsX2_value_r2) ++ wsX20 ++ wsX00 ++ wsX10 ++ (vx_atS RX2 165 "java/lang/IndexOutOfBoundsException" ["java/lang/RuntimeException", "java/lang/Exception"]).filter goodWord)
def wsX2_sum_r1 : List Cond := [Cond.fieldLink RX2 21 "DotStores" "dots" "LDotStores$Dots;", Cond.fieldLink RX2 108 "DotStores$Dots" "count" "I", Cond.fieldLink RX2 123 "DotStores$Dots" "value" "[J", Cond.methodLink RX2 38 yX2_replicaAt, Cond.instanceMethod yX2_replicaAt, Cond.selects RX2 yX2_replicaAt yX2_replicaAt, Cond.initialized RX2, Cond.code yX2_replicaAt cX2_replicaAt 2 (some (.object "DotStores$State")), Cond.classLink RX2 161 "java/lang/IndexOutOfBoundsException", Cond.initialized "java/lang/IndexOutOfBoundsException", Cond.fieldLink RX2 11 "DotStores" "replicas" "[LDotStores$State;", Cond.methodLink RX2 42 yX2_requireIndex, Cond.static yX2_requireIndex, Cond.code yX2_requireIndex cX2_requireIndex 2 none, Cond.methodLink RX2 111 yX1_isLive, Cond.instanceMethod yX1_isLive, Cond.selects RX1 yX1_isLive yX1_isLive, Cond.initialized RX1, Cond.code yX1_isLive cX1_isLive 2 (some .boolean), Cond.fieldLink RX1 15 "DotStores$State" "live" "[J", Cond.methodLink RX2 115 yX0_fits, Cond.instanceMethod yX0_fits, Cond.selects RX0 yX0_fits yX0_fits, Cond.initialized RX0]
def wsX2_sum_r2 : List Cond := [Cond.code yX0_fits cX0_fits 5 (some .boolean), Cond.fieldLink RX0 18 "DotStores$Dots" "key" "[I", Cond.fieldLink RX0 21 "DotStores$Dots" "part" "[I", Cond.fieldLink RX0 9 "DotStores$Dots" "replica" "[I"]
def wsX2_sum : List Cond := .code yX2_sum cX2_sum 7 (some .long) :: ((wsX2_sum_r1 ++ wsX2_sum_r2) ++ wsX20 ++ wsX00 ++ wsX10 ++ (vx_atS RX2 165 "java/lang/IndexOutOfBoundsException" ["java/lang/RuntimeException", "java/lang/Exception"]).filter goodWord)
def wsX2_keys : List Cond := .code yX2_keys cX2_keys 5 (some .int) :: ([.fieldLink RX2 21 "DotStores" "dots" "LDotStores$Dots;", .fieldLink RX2 108 "DotStores$Dots" "count" "I", .fieldLink RX2 126 "DotStores$Dots" "key" "[I", .methodLink RX2 38 yX2_replicaAt, .instanceMethod yX2_replicaAt, .selects RX2 yX2_replicaAt yX2_replicaAt, .initialized RX2, .code yX2_replicaAt cX2_replicaAt 2 (some (.object "DotStores$State")), .classLink RX2 161 "java/lang/IndexOutOfBoundsException", .initialized "java/lang/IndexOutOfBoundsException", .fieldLink RX2 11 "DotStores" "replicas" "[LDotStores$State;", .methodLink RX2 111 yX1_isLive, .instanceMethod yX1_isLive, .selects RX1 yX1_isLive yX1_isLive, .initialized RX1, .code yX1_isLive cX1_isLive 2 (some .boolean), .fieldLink RX1 15 "DotStores$State" "live" "[J"] ++ wsX20 ++ wsX00 ++ wsX10 ++ (vx_atS RX2 165 "java/lang/IndexOutOfBoundsException" ["java/lang/RuntimeException", "java/lang/Exception"]).filter goodWord)
def wsX2_inTwice : List Cond := .code yX2_inTwice cX2_inTwice 4 (some .int) :: ([.fieldLink RX2 76 "DotStores$State" "put" "I", .fieldLink RX2 79 "DotStores$State" "taken" "I", .methodLink RX2 38 yX2_replicaAt, .instanceMethod yX2_replicaAt, .selects RX2 yX2_replicaAt yX2_replicaAt, .initialized RX2, .code yX2_replicaAt cX2_replicaAt 2 (some (.object "DotStores$State")), .classLink RX2 161 "java/lang/IndexOutOfBoundsException", .initialized "java/lang/IndexOutOfBoundsException", .fieldLink RX2 11 "DotStores" "replicas" "[LDotStores$State;", .methodLink RX2 42 yX2_requireIndex, .static yX2_requireIndex, .code yX2_requireIndex cX2_requireIndex 2 none] ++ wsX10 ++ wsX20 ++ (vx_atS RX2 165 "java/lang/IndexOutOfBoundsException" ["java/lang/RuntimeException", "java/lang/Exception"]).filter goodWord)
def wsX2_stampIsIn : List Cond := .code yX2_stampIsIn cX2_stampIsIn 1 (some .boolean) :: ([])
def wsX2_stampTime : List Cond := .code yX2_stampTime cX2_stampTime 1 (some .int) :: ([])
def wsX2_stampReplica : List Cond := .code yX2_stampReplica cX2_stampReplica 1 (some .int) :: ([])
def wsX2_inTimed : List Cond := .code yX2_inTimed cX2_inTimed 6 (some .int) :: ([.fieldLink RX2 85 "DotStores$State" "stamps" "[I", .methodLink RX2 38 yX2_replicaAt, .instanceMethod yX2_replicaAt, .selects RX2 yX2_replicaAt yX2_replicaAt, .initialized RX2, .code yX2_replicaAt cX2_replicaAt 2 (some (.object "DotStores$State")), .classLink RX2 161 "java/lang/IndexOutOfBoundsException", .initialized "java/lang/IndexOutOfBoundsException", .fieldLink RX2 11 "DotStores" "replicas" "[LDotStores$State;", .methodLink RX2 42 yX2_requireIndex, .static yX2_requireIndex, .code yX2_requireIndex cX2_requireIndex 2 none, .methodLink RX2 129 yX2_stampIsIn, .static yX2_stampIsIn, .code yX2_stampIsIn cX2_stampIsIn 1 (some .boolean), .methodLink RX2 100 yX2_bit, .static yX2_bit, .code yX2_bit cX2_bit 1 (some .int), .methodLink RX2 132 yX2_stampTime, .static yX2_stampTime, .code yX2_stampTime cX2_stampTime 1 (some .int), .methodLink RX2 136 yX2_stampReplica, .static yX2_stampReplica, .code yX2_stampReplica cX2_stampReplica 1 (some .int)] ++ wsX10 ++ wsX20 ++ (vx_atS RX2 165 "java/lang/IndexOutOfBoundsException" ["java/lang/RuntimeException", "java/lang/Exception"]).filter goodWord)
def wsX2_seen : List Cond := .code yX2_seen cX2_seen 9 (some .int) :: ([.fieldLink RX2 21 "DotStores" "dots" "LDotStores$Dots;", .fieldLink RX2 108 "DotStores$Dots" "count" "I", .fieldLink RX2 139 "DotStores$Dots" "replica" "[I", .fieldLink RX2 145 "DotStores$Dots" "number" "[I", .methodLink RX2 38 yX2_replicaAt, .instanceMethod yX2_replicaAt, .selects RX2 yX2_replicaAt yX2_replicaAt, .initialized RX2, .code yX2_replicaAt cX2_replicaAt 2 (some (.object "DotStores$State")), .classLink RX2 161 "java/lang/IndexOutOfBoundsException", .initialized "java/lang/IndexOutOfBoundsException", .fieldLink RX2 11 "DotStores" "replicas" "[LDotStores$State;", .methodLink RX2 42 yX2_requireIndex, .static yX2_requireIndex, .code yX2_requireIndex cX2_requireIndex 2 none, .methodLink RX2 142 yX1_isSeen, .instanceMethod yX1_isSeen, .selects RX1 yX1_isSeen yX1_isSeen, .initialized RX1, .code yX1_isSeen cX1_isSeen 2 (some .boolean), .fieldLink RX1 9 "DotStores$State" "seen" "[J"] ++ wsX20 ++ wsX00 ++ wsX10 ++ (vx_atS RX2 165 "java/lang/IndexOutOfBoundsException" ["java/lang/RuntimeException", "java/lang/Exception"]).filter goodWord)
def wsJ13_bitCount_95d88 : List Cond := .code yJ13_bitCount_95d88 cJ13_bitCount_95d88 2 (some .int) :: ([.constantLong RJ13 314 (6148914691236517205), .constantLong RJ13 316 (3689348814741910323), .constantLong RJ13 318 (1085102592571150095)])
def wsX2_bitsIn : List Cond := .code yX2_bitsIn cX2_bitsIn 3 (some .int) :: ([.methodLink RX2 200 yJ13_bitCount_95d88, .static yJ13_bitCount_95d88, .initialized RJ13, .code yJ13_bitCount_95d88 cJ13_bitCount_95d88 2 (some .int), .constantLong RJ13 314 (6148914691236517205), .constantLong RJ13 316 (3689348814741910323), .constantLong RJ13 318 (1085102592571150095)])
def wsX2_size_r1 : List Cond := [Cond.fieldLink RX2 148 "DotStores$State" "live" "[J", Cond.fieldLink RX2 155 "DotStores$State" "seen" "[J", Cond.methodLink RX2 93 yX2_deltaAt, Cond.instanceMethod yX2_deltaAt, Cond.selects RX2 yX2_deltaAt yX2_deltaAt, Cond.initialized RX2, Cond.code yX2_deltaAt cX2_deltaAt 2 (some (.object "DotStores$State")), Cond.classLink RX2 161 "java/lang/IndexOutOfBoundsException", Cond.initialized "java/lang/IndexOutOfBoundsException", Cond.fieldLink RX2 15 "DotStores" "made" "[LDotStores$State;", Cond.methodLink RX2 38 yX2_replicaAt, Cond.instanceMethod yX2_replicaAt, Cond.selects RX2 yX2_replicaAt yX2_replicaAt, Cond.code yX2_replicaAt cX2_replicaAt 2 (some (.object "DotStores$State")), Cond.fieldLink RX2 11 "DotStores" "replicas" "[LDotStores$State;", Cond.methodLink RX2 42 yX2_requireIndex, Cond.static yX2_requireIndex, Cond.code yX2_requireIndex cX2_requireIndex 2 none, Cond.methodLink RX2 151 yX2_bitsIn, Cond.static yX2_bitsIn, Cond.code yX2_bitsIn cX2_bitsIn 3 (some .int), Cond.methodLink RX2 200 yJ13_bitCount_95d88, Cond.static yJ13_bitCount_95d88, Cond.initialized RJ13]
def wsX2_size_r2 : List Cond := [Cond.code yJ13_bitCount_95d88 cJ13_bitCount_95d88 2 (some .int), Cond.constantLong RJ13 314 (6148914691236517205), Cond.constantLong RJ13 316 (3689348814741910323), Cond.constantLong RJ13 318 (1085102592571150095)]
def wsX2_size : List Cond := .code yX2_size cX2_size 4 (some .int) :: ((wsX2_size_r1 ++ wsX2_size_r2) ++ wsX10 ++ wsX20 ++ (vx_atS RX2 165 "java/lang/IndexOutOfBoundsException" ["java/lang/RuntimeException", "java/lang/Exception"]).filter goodWord)
def wsX2_same : List Cond := .code yX2_same cX2_same 4 (some .int) :: ([.methodLink RX2 38 yX2_replicaAt, .instanceMethod yX2_replicaAt, .selects RX2 yX2_replicaAt yX2_replicaAt, .initialized RX2, .code yX2_replicaAt cX2_replicaAt 2 (some (.object "DotStores$State")), .classLink RX2 161 "java/lang/IndexOutOfBoundsException", .initialized "java/lang/IndexOutOfBoundsException", .fieldLink RX2 11 "DotStores" "replicas" "[LDotStores$State;", .methodLink RX2 158 yX1_isLike, .instanceMethod yX1_isLike, .selects RX1 yX1_isLike yX1_isLike, .initialized RX1, .code yX1_isLike cX1_isLike 4 (some .boolean), .fieldLink RX1 22 "DotStores$State" "put" "I", .fieldLink RX1 26 "DotStores$State" "taken" "I", .fieldLink RX1 9 "DotStores$State" "seen" "[J", .fieldLink RX1 15 "DotStores$State" "live" "[J", .fieldLink RX1 18 "DotStores$State" "stamps" "[I", .methodLink RX2 100 yX2_bit, .static yX2_bit, .code yX2_bit cX2_bit 1 (some .int)] ++ wsX20 ++ wsX10 ++ (vx_atS RX2 165 "java/lang/IndexOutOfBoundsException" ["java/lang/RuntimeException", "java/lang/Exception"]).filter goodWord)
def wsX2_below_r1 : List Cond := [Cond.fieldLink RX2 26 "DotStores" "trial" "LDotStores$State;", Cond.methodLink RX2 38 yX2_replicaAt, Cond.instanceMethod yX2_replicaAt, Cond.selects RX2 yX2_replicaAt yX2_replicaAt, Cond.initialized RX2, Cond.code yX2_replicaAt cX2_replicaAt 2 (some (.object "DotStores$State")), Cond.classLink RX2 161 "java/lang/IndexOutOfBoundsException", Cond.initialized "java/lang/IndexOutOfBoundsException", Cond.fieldLink RX2 11 "DotStores" "replicas" "[LDotStores$State;", Cond.methodLink RX2 104 yX1_become, Cond.instanceMethod yX1_become, Cond.selects RX1 yX1_become yX1_become, Cond.initialized RX1, Cond.code yX1_become cX1_become 2 none, Cond.fieldLink RX1 9 "DotStores$State" "seen" "[J", Cond.methodLink RX1 45 arraycopyName, Cond.native arraycopyName, Cond.static arraycopyName, Cond.initialized "java/lang/System", Cond.fieldLink RX1 15 "DotStores$State" "live" "[J", Cond.fieldLink RX1 18 "DotStores$State" "stamps" "[I", Cond.fieldLink RX1 22 "DotStores$State" "put" "I", Cond.fieldLink RX1 26 "DotStores$State" "taken" "I", Cond.methodLink RX2 96 yX1_take]
def wsX2_below_r2 : List Cond := [Cond.instanceMethod yX1_take, Cond.selects RX1 yX1_take yX1_take, Cond.code yX1_take cX1_take 5 (some .boolean), Cond.methodLink RX1 33 yX1_takeDots, Cond.instanceMethod yX1_takeDots, Cond.selects RX1 yX1_takeDots yX1_takeDots, Cond.code yX1_takeDots cX1_takeDots 10 (some .boolean), Cond.constantLong RX1 43 (-1), Cond.methodLink RX1 37 yX1_takeTwice, Cond.instanceMethod yX1_takeTwice, Cond.selects RX1 yX1_takeTwice yX1_takeTwice, Cond.code yX1_takeTwice cX1_takeTwice 5 (some .boolean), Cond.methodLink RX1 40 yX1_takeTimed, Cond.instanceMethod yX1_takeTimed, Cond.selects RX1 yX1_takeTimed yX1_takeTimed, Cond.code yX1_takeTimed cX1_takeTimed 4 (some .boolean), Cond.methodLink RX2 100 yX2_bit, Cond.static yX2_bit, Cond.code yX2_bit cX2_bit 1 (some .int)]
def wsX2_below : List Cond := .code yX2_below cX2_below 4 (some .int) :: ((wsX2_below_r1 ++ wsX2_below_r2) ++ wsX20 ++ wsX10 ++ (vx_atS RX2 165 "java/lang/IndexOutOfBoundsException" ["java/lang/RuntimeException", "java/lang/Exception"]).filter goodWord)
def wsX3_init : List Cond := .code yX3_init cX3_init 1 none :: ([.methodLink RX3 1 objectInit, .instanceMethod objectInit, .code objectInit ⟨#[0xb1]⟩ 1 none, .arrayClass .long, .fieldLink RX3 7 "DotStoresModel" "seen" "[J", .fieldLink RX3 13 "DotStoresModel" "live" "[J", .arrayClass .int, .fieldLink RX3 16 "DotStoresModel" "put" "[I", .fieldLink RX3 20 "DotStoresModel" "taken" "[I", .fieldLink RX3 23 "DotStoresModel" "time" "[I", .fieldLink RX3 26 "DotStoresModel" "by" "[I", .arrayClass .boolean, .fieldLink RX3 29 "DotStoresModel" "isIn" "[Z", .fieldLink RX3 33 "DotStoresModel" "dotKey" "[I", .fieldLink RX3 36 "DotStoresModel" "dotPart" "[I", .fieldLink RX3 39 "DotStoresModel" "dotValue" "[J", .fieldLink RX3 42 "DotStoresModel" "sorted" "[J"] ++ wsX30)
def wsX3_thrown : List Cond := .code yX3_thrown cX3_thrown 1 (some .int) :: ([.fieldLink RX3 45 "DotStoresModel" "thrown" "I"] ++ wsX30)
def wsX3_in : List Cond := .code yX3_in cX3_in 3 (some .boolean) :: ([])
def wsX3_goes : List Cond := .code yX3_goes cX3_goes 2 (some .boolean) :: ([.fieldLink RX3 45 "DotStoresModel" "thrown" "I"] ++ wsX30)
def wsX3_dot : List Cond := .code yX3_dot cX3_dot 2 (some .int) :: ([])
def wsX3_isSet : List Cond := .code yX3_isSet cX3_isSet 4 (some .boolean) :: ([])
def wsX3_set : List Cond := .code yX3_set cX3_set 5 none :: ([])
def wsX3_greatest : List Cond := .code yX3_greatest cX3_greatest 4 (some .int) :: ([.fieldLink RX3 7 "DotStoresModel" "seen" "[J", .methodLink RX3 49 yX3_isSet, .static yX3_isSet, .initialized RX3, .code yX3_isSet cX3_isSet 4 (some .boolean)] ++ wsX30)
def wsX3_empty : List Cond := .code yX3_empty cX3_empty 3 none :: ([.fieldLink RX3 7 "DotStoresModel" "seen" "[J", .fieldLink RX3 13 "DotStoresModel" "live" "[J", .fieldLink RX3 16 "DotStoresModel" "put" "[I", .fieldLink RX3 20 "DotStoresModel" "taken" "[I", .fieldLink RX3 23 "DotStoresModel" "time" "[I", .fieldLink RX3 26 "DotStoresModel" "by" "[I", .fieldLink RX3 29 "DotStoresModel" "isIn" "[Z"] ++ wsX30)
def wsX3_copyTimed : List Cond := .code yX3_copyTimed cX3_copyTimed 3 none :: ([.fieldLink RX3 23 "DotStoresModel" "time" "[I", .fieldLink RX3 26 "DotStoresModel" "by" "[I", .fieldLink RX3 29 "DotStoresModel" "isIn" "[Z"] ++ wsX30)
def wsX3_copy : List Cond := .code yX3_copy cX3_copy 4 none :: ([.fieldLink RX3 7 "DotStoresModel" "seen" "[J", .fieldLink RX3 13 "DotStoresModel" "live" "[J", .fieldLink RX3 16 "DotStoresModel" "put" "[I", .fieldLink RX3 20 "DotStoresModel" "taken" "[I", .methodLink RX3 53 yX3_copyTimed, .instanceMethod yX3_copyTimed, .selects RX3 yX3_copyTimed yX3_copyTimed, .initialized RX3, .code yX3_copyTimed cX3_copyTimed 3 none, .fieldLink RX3 23 "DotStoresModel" "time" "[I", .fieldLink RX3 26 "DotStoresModel" "by" "[I", .fieldLink RX3 29 "DotStoresModel" "isIn" "[Z"] ++ wsX30)
def wsX3_isAfter : List Cond := .code yX3_isAfter cX3_isAfter 3 (some .boolean) :: ([.fieldLink RX3 23 "DotStoresModel" "time" "[I", .fieldLink RX3 26 "DotStoresModel" "by" "[I", .fieldLink RX3 29 "DotStoresModel" "isIn" "[Z"] ++ wsX30)
def wsX3_isSame : List Cond := .code yX3_isSame cX3_isSame 7 (some .boolean) :: ([.fieldLink RX3 16 "DotStoresModel" "put" "[I", .fieldLink RX3 20 "DotStoresModel" "taken" "[I", .fieldLink RX3 7 "DotStoresModel" "seen" "[J", .fieldLink RX3 13 "DotStoresModel" "live" "[J", .fieldLink RX3 23 "DotStoresModel" "time" "[I", .fieldLink RX3 26 "DotStoresModel" "by" "[I", .fieldLink RX3 29 "DotStoresModel" "isIn" "[Z"] ++ wsX30)
def wsX3_joinTo : List Cond := .code yX3_joinTo cX3_joinTo 6 none :: ([.fieldLink RX3 13 "DotStoresModel" "live" "[J", .fieldLink RX3 7 "DotStoresModel" "seen" "[J", .constantLong RX3 57 (-1), .fieldLink RX3 16 "DotStoresModel" "put" "[I", .fieldLink RX3 20 "DotStoresModel" "taken" "[I", .methodLink RX3 59 yX3_isAfter, .instanceMethod yX3_isAfter, .selects RX3 yX3_isAfter yX3_isAfter, .initialized RX3, .code yX3_isAfter cX3_isAfter 3 (some .boolean), .fieldLink RX3 23 "DotStoresModel" "time" "[I", .fieldLink RX3 26 "DotStoresModel" "by" "[I", .fieldLink RX3 29 "DotStoresModel" "isIn" "[Z", .methodLink RX3 53 yX3_copyTimed, .instanceMethod yX3_copyTimed, .selects RX3 yX3_copyTimed yX3_copyTimed, .code yX3_copyTimed cX3_copyTimed 3 none] ++ wsX30)
def wsX3_joined_r1 : List Cond := [Cond.methodLink RX3 63 yX3_copy, Cond.instanceMethod yX3_copy, Cond.selects RX3 yX3_copy yX3_copy, Cond.initialized RX3, Cond.code yX3_copy cX3_copy 4 none, Cond.fieldLink RX3 7 "DotStoresModel" "seen" "[J", Cond.fieldLink RX3 13 "DotStoresModel" "live" "[J", Cond.fieldLink RX3 16 "DotStoresModel" "put" "[I", Cond.fieldLink RX3 20 "DotStoresModel" "taken" "[I", Cond.methodLink RX3 53 yX3_copyTimed, Cond.instanceMethod yX3_copyTimed, Cond.selects RX3 yX3_copyTimed yX3_copyTimed, Cond.code yX3_copyTimed cX3_copyTimed 3 none, Cond.fieldLink RX3 23 "DotStoresModel" "time" "[I", Cond.fieldLink RX3 26 "DotStoresModel" "by" "[I", Cond.fieldLink RX3 29 "DotStoresModel" "isIn" "[Z", Cond.methodLink RX3 66 yX3_joinTo, Cond.instanceMethod yX3_joinTo, Cond.selects RX3 yX3_joinTo yX3_joinTo, Cond.code yX3_joinTo cX3_joinTo 6 none, Cond.constantLong RX3 57 (-1), Cond.methodLink RX3 59 yX3_isAfter, Cond.instanceMethod yX3_isAfter, Cond.selects RX3 yX3_isAfter yX3_isAfter]
def wsX3_joined_r2 : List Cond := [Cond.code yX3_isAfter cX3_isAfter 3 (some .boolean), Cond.methodLink RX3 69 yX3_isSame, Cond.instanceMethod yX3_isSame, Cond.selects RX3 yX3_isSame yX3_isSame, Cond.code yX3_isSame cX3_isSame 7 (some .boolean)]
def wsX3_joined : List Cond := .code yX3_joined cX3_joined 3 (some .int) :: ((wsX3_joined_r1 ++ wsX3_joined_r2) ++ wsX30)
def wsX3_fresh : List Cond := .code yX3_fresh cX3_fresh 2 (some .int) :: ([.fieldLink RX3 72 "DotStoresModel" "deltas" "I", .methodLink RX3 75 yX3_empty, .instanceMethod yX3_empty, .selects RX3 yX3_empty yX3_empty, .initialized RX3, .code yX3_empty cX3_empty 3 none, .fieldLink RX3 7 "DotStoresModel" "seen" "[J", .fieldLink RX3 13 "DotStoresModel" "live" "[J", .fieldLink RX3 16 "DotStoresModel" "put" "[I", .fieldLink RX3 20 "DotStoresModel" "taken" "[I", .fieldLink RX3 23 "DotStoresModel" "time" "[I", .fieldLink RX3 26 "DotStoresModel" "by" "[I", .fieldLink RX3 29 "DotStoresModel" "isIn" "[Z"] ++ wsX30)
def wsX3_done : List Cond := .code yX3_done cX3_done 3 (some .int) :: ([.fieldLink RX3 72 "DotStoresModel" "deltas" "I", .methodLink RX3 66 yX3_joinTo, .instanceMethod yX3_joinTo, .selects RX3 yX3_joinTo yX3_joinTo, .initialized RX3, .code yX3_joinTo cX3_joinTo 6 none, .fieldLink RX3 13 "DotStoresModel" "live" "[J", .fieldLink RX3 7 "DotStoresModel" "seen" "[J", .constantLong RX3 57 (-1), .fieldLink RX3 16 "DotStoresModel" "put" "[I", .fieldLink RX3 20 "DotStoresModel" "taken" "[I", .methodLink RX3 59 yX3_isAfter, .instanceMethod yX3_isAfter, .selects RX3 yX3_isAfter yX3_isAfter, .code yX3_isAfter cX3_isAfter 3 (some .boolean), .fieldLink RX3 23 "DotStoresModel" "time" "[I", .fieldLink RX3 26 "DotStoresModel" "by" "[I", .fieldLink RX3 29 "DotStoresModel" "isIn" "[Z", .methodLink RX3 53 yX3_copyTimed, .instanceMethod yX3_copyTimed, .selects RX3 yX3_copyTimed yX3_copyTimed, .code yX3_copyTimed cX3_copyTimed 3 none] ++ wsX30)
def wsX3_isReplica : List Cond := .code yX3_isReplica cX3_isReplica 2 (some .boolean) :: ([.methodLink RX3 79 yX3_in, .static yX3_in, .initialized RX3, .code yX3_in cX3_in 3 (some .boolean)])
def wsX3_isKey : List Cond := .code yX3_isKey cX3_isKey 1 (some .boolean) :: ([.methodLink RX3 79 yX3_in, .static yX3_in, .initialized RX3, .code yX3_in cX3_in 3 (some .boolean)])
def wsX3_isElement : List Cond := .code yX3_isElement cX3_isElement 1 (some .boolean) :: ([.methodLink RX3 79 yX3_in, .static yX3_in, .initialized RX3, .code yX3_in cX3_in 3 (some .boolean)])
def wsX3_takeBack : List Cond := .code yX3_takeBack cX3_takeBack 12 (some .long) :: ([.fieldLink RX3 13 "DotStoresModel" "live" "[J", .fieldLink RX3 33 "DotStoresModel" "dotKey" "[I", .fieldLink RX3 36 "DotStoresModel" "dotPart" "[I", .fieldLink RX3 7 "DotStoresModel" "seen" "[J", .fieldLink RX3 39 "DotStoresModel" "dotValue" "[J", .methodLink RX3 83 yX3_dot, .static yX3_dot, .initialized RX3, .code yX3_dot cX3_dot 2 (some .int), .methodLink RX3 49 yX3_isSet, .static yX3_isSet, .code yX3_isSet cX3_isSet 4 (some .boolean), .methodLink RX3 87 yX3_set, .static yX3_set, .code yX3_set cX3_set 5 none] ++ wsX30)
def wsX3_newDot : List Cond := .code yX3_newDot cX3_newDot 9 none :: ([.fieldLink RX3 33 "DotStoresModel" "dotKey" "[I", .fieldLink RX3 36 "DotStoresModel" "dotPart" "[I", .fieldLink RX3 39 "DotStoresModel" "dotValue" "[J", .fieldLink RX3 7 "DotStoresModel" "seen" "[J", .fieldLink RX3 13 "DotStoresModel" "live" "[J", .methodLink RX3 91 yX3_greatest, .instanceMethod yX3_greatest, .selects RX3 yX3_greatest yX3_greatest, .initialized RX3, .code yX3_greatest cX3_greatest 4 (some .int), .methodLink RX3 49 yX3_isSet, .static yX3_isSet, .code yX3_isSet cX3_isSet 4 (some .boolean), .methodLink RX3 83 yX3_dot, .static yX3_dot, .code yX3_dot cX3_dot 2 (some .int), .methodLink RX3 87 yX3_set, .static yX3_set, .code yX3_set cX3_set 5 none] ++ wsX30)
def wsX3_hasRoom : List Cond := .code yX3_hasRoom cX3_hasRoom 3 (some .boolean) :: ([.fieldLink RX3 72 "DotStoresModel" "deltas" "I", .methodLink RX3 91 yX3_greatest, .instanceMethod yX3_greatest, .selects RX3 yX3_greatest yX3_greatest, .initialized RX3, .code yX3_greatest cX3_greatest 4 (some .int), .fieldLink RX3 7 "DotStoresModel" "seen" "[J", .methodLink RX3 49 yX3_isSet, .static yX3_isSet, .code yX3_isSet cX3_isSet 4 (some .boolean)] ++ wsX30)
def wsX3_refusal : List Cond := .code yX3_refusal cX3_refusal 6 (some .int) :: ([.methodLink RX3 94 yX3_isReplica, .instanceMethod yX3_isReplica, .selects RX3 yX3_isReplica yX3_isReplica, .initialized RX3, .code yX3_isReplica cX3_isReplica 2 (some .boolean), .methodLink RX3 79 yX3_in, .static yX3_in, .code yX3_in cX3_in 3 (some .boolean), .methodLink RX3 98 yX3_isKey, .static yX3_isKey, .code yX3_isKey cX3_isKey 1 (some .boolean), .methodLink RX3 101 yX3_hasRoom, .instanceMethod yX3_hasRoom, .selects RX3 yX3_hasRoom yX3_hasRoom, .code yX3_hasRoom cX3_hasRoom 3 (some .boolean), .fieldLink RX3 72 "DotStoresModel" "deltas" "I", .methodLink RX3 91 yX3_greatest, .instanceMethod yX3_greatest, .selects RX3 yX3_greatest yX3_greatest, .code yX3_greatest cX3_greatest 4 (some .int), .fieldLink RX3 7 "DotStoresModel" "seen" "[J", .methodLink RX3 49 yX3_isSet, .static yX3_isSet, .code yX3_isSet cX3_isSet 4 (some .boolean)] ++ wsX30)
def wsX3_change_r1 : List Cond := [Cond.methodLink RX3 105 yX3_fresh, Cond.instanceMethod yX3_fresh, Cond.selects RX3 yX3_fresh yX3_fresh, Cond.initialized RX3, Cond.code yX3_fresh cX3_fresh 2 (some .int), Cond.fieldLink RX3 72 "DotStoresModel" "deltas" "I", Cond.methodLink RX3 75 yX3_empty, Cond.instanceMethod yX3_empty, Cond.selects RX3 yX3_empty yX3_empty, Cond.code yX3_empty cX3_empty 3 none, Cond.fieldLink RX3 7 "DotStoresModel" "seen" "[J", Cond.fieldLink RX3 13 "DotStoresModel" "live" "[J", Cond.fieldLink RX3 16 "DotStoresModel" "put" "[I", Cond.fieldLink RX3 20 "DotStoresModel" "taken" "[I", Cond.fieldLink RX3 23 "DotStoresModel" "time" "[I", Cond.fieldLink RX3 26 "DotStoresModel" "by" "[I", Cond.fieldLink RX3 29 "DotStoresModel" "isIn" "[Z", Cond.methodLink RX3 109 yX3_takeBack, Cond.instanceMethod yX3_takeBack, Cond.selects RX3 yX3_takeBack yX3_takeBack, Cond.code yX3_takeBack cX3_takeBack 12 (some .long), Cond.fieldLink RX3 33 "DotStoresModel" "dotKey" "[I", Cond.fieldLink RX3 36 "DotStoresModel" "dotPart" "[I", Cond.fieldLink RX3 39 "DotStoresModel" "dotValue" "[J"]
def wsX3_change_r2 : List Cond := [Cond.methodLink RX3 83 yX3_dot, Cond.static yX3_dot, Cond.code yX3_dot cX3_dot 2 (some .int), Cond.methodLink RX3 49 yX3_isSet, Cond.static yX3_isSet, Cond.code yX3_isSet cX3_isSet 4 (some .boolean), Cond.methodLink RX3 87 yX3_set, Cond.static yX3_set, Cond.code yX3_set cX3_set 5 none, Cond.methodLink RX3 113 yX3_newDot, Cond.instanceMethod yX3_newDot, Cond.selects RX3 yX3_newDot yX3_newDot, Cond.code yX3_newDot cX3_newDot 9 none, Cond.methodLink RX3 91 yX3_greatest, Cond.instanceMethod yX3_greatest, Cond.selects RX3 yX3_greatest yX3_greatest, Cond.code yX3_greatest cX3_greatest 4 (some .int), Cond.methodLink RX3 117 yX3_done, Cond.instanceMethod yX3_done, Cond.selects RX3 yX3_done yX3_done, Cond.code yX3_done cX3_done 3 (some .int), Cond.methodLink RX3 66 yX3_joinTo, Cond.instanceMethod yX3_joinTo, Cond.selects RX3 yX3_joinTo yX3_joinTo]
def wsX3_change_r3 : List Cond := [Cond.code yX3_joinTo cX3_joinTo 6 none, Cond.constantLong RX3 57 (-1), Cond.methodLink RX3 59 yX3_isAfter, Cond.instanceMethod yX3_isAfter, Cond.selects RX3 yX3_isAfter yX3_isAfter, Cond.code yX3_isAfter cX3_isAfter 3 (some .boolean), Cond.methodLink RX3 53 yX3_copyTimed, Cond.instanceMethod yX3_copyTimed, Cond.selects RX3 yX3_copyTimed yX3_copyTimed, Cond.code yX3_copyTimed cX3_copyTimed 3 none]
def wsX3_change : List Cond := .code yX3_change cX3_change 6 (some .int) :: ((wsX3_change_r1 ++ (wsX3_change_r2 ++ wsX3_change_r3)) ++ wsX30)
def wsX3_element_r1 : List Cond := [Cond.fieldLink RX3 45 "DotStoresModel" "thrown" "I", Cond.methodLink RX3 120 yX3_isElement, Cond.static yX3_isElement, Cond.initialized RX3, Cond.code yX3_isElement cX3_isElement 1 (some .boolean), Cond.methodLink RX3 79 yX3_in, Cond.static yX3_in, Cond.code yX3_in cX3_in 3 (some .boolean), Cond.methodLink RX3 123 yX3_refusal, Cond.instanceMethod yX3_refusal, Cond.selects RX3 yX3_refusal yX3_refusal, Cond.code yX3_refusal cX3_refusal 6 (some .int), Cond.methodLink RX3 94 yX3_isReplica, Cond.instanceMethod yX3_isReplica, Cond.selects RX3 yX3_isReplica yX3_isReplica, Cond.code yX3_isReplica cX3_isReplica 2 (some .boolean), Cond.methodLink RX3 98 yX3_isKey, Cond.static yX3_isKey, Cond.code yX3_isKey cX3_isKey 1 (some .boolean), Cond.methodLink RX3 101 yX3_hasRoom, Cond.instanceMethod yX3_hasRoom, Cond.selects RX3 yX3_hasRoom yX3_hasRoom, Cond.code yX3_hasRoom cX3_hasRoom 3 (some .boolean), Cond.fieldLink RX3 72 "DotStoresModel" "deltas" "I"]
def wsX3_element_r2 : List Cond := [Cond.methodLink RX3 91 yX3_greatest, Cond.instanceMethod yX3_greatest, Cond.selects RX3 yX3_greatest yX3_greatest, Cond.code yX3_greatest cX3_greatest 4 (some .int), Cond.fieldLink RX3 7 "DotStoresModel" "seen" "[J", Cond.methodLink RX3 49 yX3_isSet, Cond.static yX3_isSet, Cond.code yX3_isSet cX3_isSet 4 (some .boolean), Cond.methodLink RX3 127 yX3_change, Cond.instanceMethod yX3_change, Cond.selects RX3 yX3_change yX3_change, Cond.code yX3_change cX3_change 6 (some .int), Cond.methodLink RX3 105 yX3_fresh, Cond.instanceMethod yX3_fresh, Cond.selects RX3 yX3_fresh yX3_fresh, Cond.code yX3_fresh cX3_fresh 2 (some .int), Cond.methodLink RX3 75 yX3_empty, Cond.instanceMethod yX3_empty, Cond.selects RX3 yX3_empty yX3_empty, Cond.code yX3_empty cX3_empty 3 none, Cond.fieldLink RX3 13 "DotStoresModel" "live" "[J", Cond.fieldLink RX3 16 "DotStoresModel" "put" "[I", Cond.fieldLink RX3 20 "DotStoresModel" "taken" "[I", Cond.fieldLink RX3 23 "DotStoresModel" "time" "[I"]
def wsX3_element_r3 : List Cond := [Cond.fieldLink RX3 26 "DotStoresModel" "by" "[I", Cond.fieldLink RX3 29 "DotStoresModel" "isIn" "[Z", Cond.methodLink RX3 109 yX3_takeBack, Cond.instanceMethod yX3_takeBack, Cond.selects RX3 yX3_takeBack yX3_takeBack, Cond.code yX3_takeBack cX3_takeBack 12 (some .long), Cond.fieldLink RX3 33 "DotStoresModel" "dotKey" "[I", Cond.fieldLink RX3 36 "DotStoresModel" "dotPart" "[I", Cond.fieldLink RX3 39 "DotStoresModel" "dotValue" "[J", Cond.methodLink RX3 83 yX3_dot, Cond.static yX3_dot, Cond.code yX3_dot cX3_dot 2 (some .int), Cond.methodLink RX3 87 yX3_set, Cond.static yX3_set, Cond.code yX3_set cX3_set 5 none, Cond.methodLink RX3 113 yX3_newDot, Cond.instanceMethod yX3_newDot, Cond.selects RX3 yX3_newDot yX3_newDot, Cond.code yX3_newDot cX3_newDot 9 none, Cond.methodLink RX3 117 yX3_done, Cond.instanceMethod yX3_done, Cond.selects RX3 yX3_done yX3_done, Cond.code yX3_done cX3_done 3 (some .int), Cond.methodLink RX3 66 yX3_joinTo]
def wsX3_element_r4 : List Cond := [Cond.instanceMethod yX3_joinTo, Cond.selects RX3 yX3_joinTo yX3_joinTo, Cond.code yX3_joinTo cX3_joinTo 6 none, Cond.constantLong RX3 57 (-1), Cond.methodLink RX3 59 yX3_isAfter, Cond.instanceMethod yX3_isAfter, Cond.selects RX3 yX3_isAfter yX3_isAfter, Cond.code yX3_isAfter cX3_isAfter 3 (some .boolean), Cond.methodLink RX3 53 yX3_copyTimed, Cond.instanceMethod yX3_copyTimed, Cond.selects RX3 yX3_copyTimed yX3_copyTimed, Cond.code yX3_copyTimed cX3_copyTimed 3 none]
def wsX3_element : List Cond := .code yX3_element cX3_element 5 (some .int) :: ((wsX3_element_r1 ++ (wsX3_element_r2 ++ (wsX3_element_r3 ++ wsX3_element_r4))) ++ wsX30)
def wsX3_write_r1 : List Cond := [Cond.fieldLink RX3 45 "DotStoresModel" "thrown" "I", Cond.methodLink RX3 123 yX3_refusal, Cond.instanceMethod yX3_refusal, Cond.selects RX3 yX3_refusal yX3_refusal, Cond.initialized RX3, Cond.code yX3_refusal cX3_refusal 6 (some .int), Cond.methodLink RX3 94 yX3_isReplica, Cond.instanceMethod yX3_isReplica, Cond.selects RX3 yX3_isReplica yX3_isReplica, Cond.code yX3_isReplica cX3_isReplica 2 (some .boolean), Cond.methodLink RX3 79 yX3_in, Cond.static yX3_in, Cond.code yX3_in cX3_in 3 (some .boolean), Cond.methodLink RX3 98 yX3_isKey, Cond.static yX3_isKey, Cond.code yX3_isKey cX3_isKey 1 (some .boolean), Cond.methodLink RX3 101 yX3_hasRoom, Cond.instanceMethod yX3_hasRoom, Cond.selects RX3 yX3_hasRoom yX3_hasRoom, Cond.code yX3_hasRoom cX3_hasRoom 3 (some .boolean), Cond.fieldLink RX3 72 "DotStoresModel" "deltas" "I", Cond.methodLink RX3 91 yX3_greatest, Cond.instanceMethod yX3_greatest, Cond.selects RX3 yX3_greatest yX3_greatest]
def wsX3_write_r2 : List Cond := [Cond.code yX3_greatest cX3_greatest 4 (some .int), Cond.fieldLink RX3 7 "DotStoresModel" "seen" "[J", Cond.methodLink RX3 49 yX3_isSet, Cond.static yX3_isSet, Cond.code yX3_isSet cX3_isSet 4 (some .boolean), Cond.methodLink RX3 105 yX3_fresh, Cond.instanceMethod yX3_fresh, Cond.selects RX3 yX3_fresh yX3_fresh, Cond.code yX3_fresh cX3_fresh 2 (some .int), Cond.methodLink RX3 75 yX3_empty, Cond.instanceMethod yX3_empty, Cond.selects RX3 yX3_empty yX3_empty, Cond.code yX3_empty cX3_empty 3 none, Cond.fieldLink RX3 13 "DotStoresModel" "live" "[J", Cond.fieldLink RX3 16 "DotStoresModel" "put" "[I", Cond.fieldLink RX3 20 "DotStoresModel" "taken" "[I", Cond.fieldLink RX3 23 "DotStoresModel" "time" "[I", Cond.fieldLink RX3 26 "DotStoresModel" "by" "[I", Cond.fieldLink RX3 29 "DotStoresModel" "isIn" "[Z", Cond.methodLink RX3 109 yX3_takeBack, Cond.instanceMethod yX3_takeBack, Cond.selects RX3 yX3_takeBack yX3_takeBack, Cond.code yX3_takeBack cX3_takeBack 12 (some .long), Cond.fieldLink RX3 33 "DotStoresModel" "dotKey" "[I"]
def wsX3_write_r3 : List Cond := [Cond.fieldLink RX3 36 "DotStoresModel" "dotPart" "[I", Cond.fieldLink RX3 39 "DotStoresModel" "dotValue" "[J", Cond.methodLink RX3 83 yX3_dot, Cond.static yX3_dot, Cond.code yX3_dot cX3_dot 2 (some .int), Cond.methodLink RX3 87 yX3_set, Cond.static yX3_set, Cond.code yX3_set cX3_set 5 none, Cond.methodLink RX3 113 yX3_newDot, Cond.instanceMethod yX3_newDot, Cond.selects RX3 yX3_newDot yX3_newDot, Cond.code yX3_newDot cX3_newDot 9 none, Cond.methodLink RX3 117 yX3_done, Cond.instanceMethod yX3_done, Cond.selects RX3 yX3_done yX3_done, Cond.code yX3_done cX3_done 3 (some .int), Cond.methodLink RX3 66 yX3_joinTo, Cond.instanceMethod yX3_joinTo, Cond.selects RX3 yX3_joinTo yX3_joinTo, Cond.code yX3_joinTo cX3_joinTo 6 none, Cond.constantLong RX3 57 (-1), Cond.methodLink RX3 59 yX3_isAfter, Cond.instanceMethod yX3_isAfter, Cond.selects RX3 yX3_isAfter yX3_isAfter]
def wsX3_write_r4 : List Cond := [Cond.code yX3_isAfter cX3_isAfter 3 (some .boolean), Cond.methodLink RX3 53 yX3_copyTimed, Cond.instanceMethod yX3_copyTimed, Cond.selects RX3 yX3_copyTimed yX3_copyTimed, Cond.code yX3_copyTimed cX3_copyTimed 3 none]
def wsX3_write : List Cond := .code yX3_write cX3_write 6 (some .int) :: ((wsX3_write_r1 ++ (wsX3_write_r2 ++ (wsX3_write_r3 ++ wsX3_write_r4))) ++ wsX30)
def wsX3_count_r1 : List Cond := [Cond.fieldLink RX3 45 "DotStoresModel" "thrown" "I", Cond.methodLink RX3 123 yX3_refusal, Cond.instanceMethod yX3_refusal, Cond.selects RX3 yX3_refusal yX3_refusal, Cond.initialized RX3, Cond.code yX3_refusal cX3_refusal 6 (some .int), Cond.methodLink RX3 94 yX3_isReplica, Cond.instanceMethod yX3_isReplica, Cond.selects RX3 yX3_isReplica yX3_isReplica, Cond.code yX3_isReplica cX3_isReplica 2 (some .boolean), Cond.methodLink RX3 79 yX3_in, Cond.static yX3_in, Cond.code yX3_in cX3_in 3 (some .boolean), Cond.methodLink RX3 98 yX3_isKey, Cond.static yX3_isKey, Cond.code yX3_isKey cX3_isKey 1 (some .boolean), Cond.methodLink RX3 101 yX3_hasRoom, Cond.instanceMethod yX3_hasRoom, Cond.selects RX3 yX3_hasRoom yX3_hasRoom, Cond.code yX3_hasRoom cX3_hasRoom 3 (some .boolean), Cond.fieldLink RX3 72 "DotStoresModel" "deltas" "I", Cond.methodLink RX3 91 yX3_greatest, Cond.instanceMethod yX3_greatest, Cond.selects RX3 yX3_greatest yX3_greatest]
def wsX3_count_r2 : List Cond := [Cond.code yX3_greatest cX3_greatest 4 (some .int), Cond.fieldLink RX3 7 "DotStoresModel" "seen" "[J", Cond.methodLink RX3 49 yX3_isSet, Cond.static yX3_isSet, Cond.code yX3_isSet cX3_isSet 4 (some .boolean), Cond.methodLink RX3 105 yX3_fresh, Cond.instanceMethod yX3_fresh, Cond.selects RX3 yX3_fresh yX3_fresh, Cond.code yX3_fresh cX3_fresh 2 (some .int), Cond.methodLink RX3 75 yX3_empty, Cond.instanceMethod yX3_empty, Cond.selects RX3 yX3_empty yX3_empty, Cond.code yX3_empty cX3_empty 3 none, Cond.fieldLink RX3 13 "DotStoresModel" "live" "[J", Cond.fieldLink RX3 16 "DotStoresModel" "put" "[I", Cond.fieldLink RX3 20 "DotStoresModel" "taken" "[I", Cond.fieldLink RX3 23 "DotStoresModel" "time" "[I", Cond.fieldLink RX3 26 "DotStoresModel" "by" "[I", Cond.fieldLink RX3 29 "DotStoresModel" "isIn" "[Z", Cond.methodLink RX3 109 yX3_takeBack, Cond.instanceMethod yX3_takeBack, Cond.selects RX3 yX3_takeBack yX3_takeBack, Cond.code yX3_takeBack cX3_takeBack 12 (some .long), Cond.fieldLink RX3 33 "DotStoresModel" "dotKey" "[I"]
def wsX3_count_r3 : List Cond := [Cond.fieldLink RX3 36 "DotStoresModel" "dotPart" "[I", Cond.fieldLink RX3 39 "DotStoresModel" "dotValue" "[J", Cond.methodLink RX3 83 yX3_dot, Cond.static yX3_dot, Cond.code yX3_dot cX3_dot 2 (some .int), Cond.methodLink RX3 87 yX3_set, Cond.static yX3_set, Cond.code yX3_set cX3_set 5 none, Cond.methodLink RX3 113 yX3_newDot, Cond.instanceMethod yX3_newDot, Cond.selects RX3 yX3_newDot yX3_newDot, Cond.code yX3_newDot cX3_newDot 9 none, Cond.methodLink RX3 117 yX3_done, Cond.instanceMethod yX3_done, Cond.selects RX3 yX3_done yX3_done, Cond.code yX3_done cX3_done 3 (some .int), Cond.methodLink RX3 66 yX3_joinTo, Cond.instanceMethod yX3_joinTo, Cond.selects RX3 yX3_joinTo yX3_joinTo, Cond.code yX3_joinTo cX3_joinTo 6 none, Cond.constantLong RX3 57 (-1), Cond.methodLink RX3 59 yX3_isAfter, Cond.instanceMethod yX3_isAfter, Cond.selects RX3 yX3_isAfter yX3_isAfter]
def wsX3_count_r4 : List Cond := [Cond.code yX3_isAfter cX3_isAfter 3 (some .boolean), Cond.methodLink RX3 53 yX3_copyTimed, Cond.instanceMethod yX3_copyTimed, Cond.selects RX3 yX3_copyTimed yX3_copyTimed, Cond.code yX3_copyTimed cX3_copyTimed 3 none]
def wsX3_count : List Cond := .code yX3_count cX3_count 8 (some .int) :: ((wsX3_count_r1 ++ (wsX3_count_r2 ++ (wsX3_count_r3 ++ wsX3_count_r4))) ++ wsX30)
def wsX3_flag_r1 : List Cond := [Cond.fieldLink RX3 45 "DotStoresModel" "thrown" "I", Cond.methodLink RX3 79 yX3_in, Cond.static yX3_in, Cond.initialized RX3, Cond.code yX3_in cX3_in 3 (some .boolean), Cond.methodLink RX3 123 yX3_refusal, Cond.instanceMethod yX3_refusal, Cond.selects RX3 yX3_refusal yX3_refusal, Cond.code yX3_refusal cX3_refusal 6 (some .int), Cond.methodLink RX3 94 yX3_isReplica, Cond.instanceMethod yX3_isReplica, Cond.selects RX3 yX3_isReplica yX3_isReplica, Cond.code yX3_isReplica cX3_isReplica 2 (some .boolean), Cond.methodLink RX3 98 yX3_isKey, Cond.static yX3_isKey, Cond.code yX3_isKey cX3_isKey 1 (some .boolean), Cond.methodLink RX3 101 yX3_hasRoom, Cond.instanceMethod yX3_hasRoom, Cond.selects RX3 yX3_hasRoom yX3_hasRoom, Cond.code yX3_hasRoom cX3_hasRoom 3 (some .boolean), Cond.fieldLink RX3 72 "DotStoresModel" "deltas" "I", Cond.methodLink RX3 91 yX3_greatest, Cond.instanceMethod yX3_greatest, Cond.selects RX3 yX3_greatest yX3_greatest]
def wsX3_flag_r2 : List Cond := [Cond.code yX3_greatest cX3_greatest 4 (some .int), Cond.fieldLink RX3 7 "DotStoresModel" "seen" "[J", Cond.methodLink RX3 49 yX3_isSet, Cond.static yX3_isSet, Cond.code yX3_isSet cX3_isSet 4 (some .boolean), Cond.methodLink RX3 127 yX3_change, Cond.instanceMethod yX3_change, Cond.selects RX3 yX3_change yX3_change, Cond.code yX3_change cX3_change 6 (some .int), Cond.methodLink RX3 105 yX3_fresh, Cond.instanceMethod yX3_fresh, Cond.selects RX3 yX3_fresh yX3_fresh, Cond.code yX3_fresh cX3_fresh 2 (some .int), Cond.methodLink RX3 75 yX3_empty, Cond.instanceMethod yX3_empty, Cond.selects RX3 yX3_empty yX3_empty, Cond.code yX3_empty cX3_empty 3 none, Cond.fieldLink RX3 13 "DotStoresModel" "live" "[J", Cond.fieldLink RX3 16 "DotStoresModel" "put" "[I", Cond.fieldLink RX3 20 "DotStoresModel" "taken" "[I", Cond.fieldLink RX3 23 "DotStoresModel" "time" "[I", Cond.fieldLink RX3 26 "DotStoresModel" "by" "[I", Cond.fieldLink RX3 29 "DotStoresModel" "isIn" "[Z", Cond.methodLink RX3 109 yX3_takeBack]
def wsX3_flag_r3 : List Cond := [Cond.instanceMethod yX3_takeBack, Cond.selects RX3 yX3_takeBack yX3_takeBack, Cond.code yX3_takeBack cX3_takeBack 12 (some .long), Cond.fieldLink RX3 33 "DotStoresModel" "dotKey" "[I", Cond.fieldLink RX3 36 "DotStoresModel" "dotPart" "[I", Cond.fieldLink RX3 39 "DotStoresModel" "dotValue" "[J", Cond.methodLink RX3 83 yX3_dot, Cond.static yX3_dot, Cond.code yX3_dot cX3_dot 2 (some .int), Cond.methodLink RX3 87 yX3_set, Cond.static yX3_set, Cond.code yX3_set cX3_set 5 none, Cond.methodLink RX3 113 yX3_newDot, Cond.instanceMethod yX3_newDot, Cond.selects RX3 yX3_newDot yX3_newDot, Cond.code yX3_newDot cX3_newDot 9 none, Cond.methodLink RX3 117 yX3_done, Cond.instanceMethod yX3_done, Cond.selects RX3 yX3_done yX3_done, Cond.code yX3_done cX3_done 3 (some .int), Cond.methodLink RX3 66 yX3_joinTo, Cond.instanceMethod yX3_joinTo, Cond.selects RX3 yX3_joinTo yX3_joinTo, Cond.code yX3_joinTo cX3_joinTo 6 none]
def wsX3_flag_r4 : List Cond := [Cond.constantLong RX3 57 (-1), Cond.methodLink RX3 59 yX3_isAfter, Cond.instanceMethod yX3_isAfter, Cond.selects RX3 yX3_isAfter yX3_isAfter, Cond.code yX3_isAfter cX3_isAfter 3 (some .boolean), Cond.methodLink RX3 53 yX3_copyTimed, Cond.instanceMethod yX3_copyTimed, Cond.selects RX3 yX3_copyTimed yX3_copyTimed, Cond.code yX3_copyTimed cX3_copyTimed 3 none]
def wsX3_flag : List Cond := .code yX3_flag cX3_flag 5 (some .int) :: ((wsX3_flag_r1 ++ (wsX3_flag_r2 ++ (wsX3_flag_r3 ++ wsX3_flag_r4))) ++ wsX30)
def wsX3_clear_r1 : List Cond := [Cond.fieldLink RX3 45 "DotStoresModel" "thrown" "I", Cond.methodLink RX3 94 yX3_isReplica, Cond.instanceMethod yX3_isReplica, Cond.selects RX3 yX3_isReplica yX3_isReplica, Cond.initialized RX3, Cond.code yX3_isReplica cX3_isReplica 2 (some .boolean), Cond.methodLink RX3 79 yX3_in, Cond.static yX3_in, Cond.code yX3_in cX3_in 3 (some .boolean), Cond.methodLink RX3 98 yX3_isKey, Cond.static yX3_isKey, Cond.code yX3_isKey cX3_isKey 1 (some .boolean), Cond.methodLink RX3 101 yX3_hasRoom, Cond.instanceMethod yX3_hasRoom, Cond.selects RX3 yX3_hasRoom yX3_hasRoom, Cond.code yX3_hasRoom cX3_hasRoom 3 (some .boolean), Cond.fieldLink RX3 72 "DotStoresModel" "deltas" "I", Cond.methodLink RX3 91 yX3_greatest, Cond.instanceMethod yX3_greatest, Cond.selects RX3 yX3_greatest yX3_greatest, Cond.code yX3_greatest cX3_greatest 4 (some .int), Cond.fieldLink RX3 7 "DotStoresModel" "seen" "[J", Cond.methodLink RX3 49 yX3_isSet, Cond.static yX3_isSet]
def wsX3_clear_r2 : List Cond := [Cond.code yX3_isSet cX3_isSet 4 (some .boolean), Cond.methodLink RX3 105 yX3_fresh, Cond.instanceMethod yX3_fresh, Cond.selects RX3 yX3_fresh yX3_fresh, Cond.code yX3_fresh cX3_fresh 2 (some .int), Cond.methodLink RX3 75 yX3_empty, Cond.instanceMethod yX3_empty, Cond.selects RX3 yX3_empty yX3_empty, Cond.code yX3_empty cX3_empty 3 none, Cond.fieldLink RX3 13 "DotStoresModel" "live" "[J", Cond.fieldLink RX3 16 "DotStoresModel" "put" "[I", Cond.fieldLink RX3 20 "DotStoresModel" "taken" "[I", Cond.fieldLink RX3 23 "DotStoresModel" "time" "[I", Cond.fieldLink RX3 26 "DotStoresModel" "by" "[I", Cond.fieldLink RX3 29 "DotStoresModel" "isIn" "[Z", Cond.methodLink RX3 109 yX3_takeBack, Cond.instanceMethod yX3_takeBack, Cond.selects RX3 yX3_takeBack yX3_takeBack, Cond.code yX3_takeBack cX3_takeBack 12 (some .long), Cond.fieldLink RX3 33 "DotStoresModel" "dotKey" "[I", Cond.fieldLink RX3 36 "DotStoresModel" "dotPart" "[I", Cond.fieldLink RX3 39 "DotStoresModel" "dotValue" "[J", Cond.methodLink RX3 83 yX3_dot, Cond.static yX3_dot]
def wsX3_clear_r3 : List Cond := [Cond.code yX3_dot cX3_dot 2 (some .int), Cond.methodLink RX3 87 yX3_set, Cond.static yX3_set, Cond.code yX3_set cX3_set 5 none, Cond.methodLink RX3 117 yX3_done, Cond.instanceMethod yX3_done, Cond.selects RX3 yX3_done yX3_done, Cond.code yX3_done cX3_done 3 (some .int), Cond.methodLink RX3 66 yX3_joinTo, Cond.instanceMethod yX3_joinTo, Cond.selects RX3 yX3_joinTo yX3_joinTo, Cond.code yX3_joinTo cX3_joinTo 6 none, Cond.constantLong RX3 57 (-1), Cond.methodLink RX3 59 yX3_isAfter, Cond.instanceMethod yX3_isAfter, Cond.selects RX3 yX3_isAfter yX3_isAfter, Cond.code yX3_isAfter cX3_isAfter 3 (some .boolean), Cond.methodLink RX3 53 yX3_copyTimed, Cond.instanceMethod yX3_copyTimed, Cond.selects RX3 yX3_copyTimed yX3_copyTimed, Cond.code yX3_copyTimed cX3_copyTimed 3 none]
def wsX3_clear : List Cond := .code yX3_clear cX3_clear 4 (some .int) :: ((wsX3_clear_r1 ++ (wsX3_clear_r2 ++ wsX3_clear_r3)) ++ wsX30)
def wsX3_twice_r1 : List Cond := [Cond.fieldLink RX3 45 "DotStoresModel" "thrown" "I", Cond.fieldLink RX3 16 "DotStoresModel" "put" "[I", Cond.fieldLink RX3 20 "DotStoresModel" "taken" "[I", Cond.methodLink RX3 94 yX3_isReplica, Cond.instanceMethod yX3_isReplica, Cond.selects RX3 yX3_isReplica yX3_isReplica, Cond.initialized RX3, Cond.code yX3_isReplica cX3_isReplica 2 (some .boolean), Cond.methodLink RX3 79 yX3_in, Cond.static yX3_in, Cond.code yX3_in cX3_in 3 (some .boolean), Cond.methodLink RX3 120 yX3_isElement, Cond.static yX3_isElement, Cond.code yX3_isElement cX3_isElement 1 (some .boolean), Cond.methodLink RX3 101 yX3_hasRoom, Cond.instanceMethod yX3_hasRoom, Cond.selects RX3 yX3_hasRoom yX3_hasRoom, Cond.code yX3_hasRoom cX3_hasRoom 3 (some .boolean), Cond.fieldLink RX3 72 "DotStoresModel" "deltas" "I", Cond.methodLink RX3 91 yX3_greatest, Cond.instanceMethod yX3_greatest, Cond.selects RX3 yX3_greatest yX3_greatest, Cond.code yX3_greatest cX3_greatest 4 (some .int), Cond.fieldLink RX3 7 "DotStoresModel" "seen" "[J"]
def wsX3_twice_r2 : List Cond := [Cond.methodLink RX3 49 yX3_isSet, Cond.static yX3_isSet, Cond.code yX3_isSet cX3_isSet 4 (some .boolean), Cond.methodLink RX3 105 yX3_fresh, Cond.instanceMethod yX3_fresh, Cond.selects RX3 yX3_fresh yX3_fresh, Cond.code yX3_fresh cX3_fresh 2 (some .int), Cond.methodLink RX3 75 yX3_empty, Cond.instanceMethod yX3_empty, Cond.selects RX3 yX3_empty yX3_empty, Cond.code yX3_empty cX3_empty 3 none, Cond.fieldLink RX3 13 "DotStoresModel" "live" "[J", Cond.fieldLink RX3 23 "DotStoresModel" "time" "[I", Cond.fieldLink RX3 26 "DotStoresModel" "by" "[I", Cond.fieldLink RX3 29 "DotStoresModel" "isIn" "[Z", Cond.methodLink RX3 117 yX3_done, Cond.instanceMethod yX3_done, Cond.selects RX3 yX3_done yX3_done, Cond.code yX3_done cX3_done 3 (some .int), Cond.methodLink RX3 66 yX3_joinTo, Cond.instanceMethod yX3_joinTo, Cond.selects RX3 yX3_joinTo yX3_joinTo, Cond.code yX3_joinTo cX3_joinTo 6 none, Cond.constantLong RX3 57 (-1)]
def wsX3_twice_r3 : List Cond := [Cond.methodLink RX3 59 yX3_isAfter, Cond.instanceMethod yX3_isAfter, Cond.selects RX3 yX3_isAfter yX3_isAfter, Cond.code yX3_isAfter cX3_isAfter 3 (some .boolean), Cond.methodLink RX3 53 yX3_copyTimed, Cond.instanceMethod yX3_copyTimed, Cond.selects RX3 yX3_copyTimed yX3_copyTimed, Cond.code yX3_copyTimed cX3_copyTimed 3 none]
def wsX3_twice : List Cond := .code yX3_twice cX3_twice 5 (some .int) :: ((wsX3_twice_r1 ++ (wsX3_twice_r2 ++ wsX3_twice_r3)) ++ wsX30)
def wsX3_timed_r1 : List Cond := [Cond.constant RX3 131 (1000000), Cond.fieldLink RX3 45 "DotStoresModel" "thrown" "I", Cond.fieldLink RX3 23 "DotStoresModel" "time" "[I", Cond.fieldLink RX3 26 "DotStoresModel" "by" "[I", Cond.fieldLink RX3 29 "DotStoresModel" "isIn" "[Z", Cond.methodLink RX3 94 yX3_isReplica, Cond.instanceMethod yX3_isReplica, Cond.selects RX3 yX3_isReplica yX3_isReplica, Cond.initialized RX3, Cond.code yX3_isReplica cX3_isReplica 2 (some .boolean), Cond.methodLink RX3 79 yX3_in, Cond.static yX3_in, Cond.code yX3_in cX3_in 3 (some .boolean), Cond.methodLink RX3 120 yX3_isElement, Cond.static yX3_isElement, Cond.code yX3_isElement cX3_isElement 1 (some .boolean), Cond.methodLink RX3 101 yX3_hasRoom, Cond.instanceMethod yX3_hasRoom, Cond.selects RX3 yX3_hasRoom yX3_hasRoom, Cond.code yX3_hasRoom cX3_hasRoom 3 (some .boolean), Cond.fieldLink RX3 72 "DotStoresModel" "deltas" "I", Cond.methodLink RX3 91 yX3_greatest, Cond.instanceMethod yX3_greatest, Cond.selects RX3 yX3_greatest yX3_greatest]
def wsX3_timed_r2 : List Cond := [Cond.code yX3_greatest cX3_greatest 4 (some .int), Cond.fieldLink RX3 7 "DotStoresModel" "seen" "[J", Cond.methodLink RX3 49 yX3_isSet, Cond.static yX3_isSet, Cond.code yX3_isSet cX3_isSet 4 (some .boolean), Cond.methodLink RX3 105 yX3_fresh, Cond.instanceMethod yX3_fresh, Cond.selects RX3 yX3_fresh yX3_fresh, Cond.code yX3_fresh cX3_fresh 2 (some .int), Cond.methodLink RX3 75 yX3_empty, Cond.instanceMethod yX3_empty, Cond.selects RX3 yX3_empty yX3_empty, Cond.code yX3_empty cX3_empty 3 none, Cond.fieldLink RX3 13 "DotStoresModel" "live" "[J", Cond.fieldLink RX3 16 "DotStoresModel" "put" "[I", Cond.fieldLink RX3 20 "DotStoresModel" "taken" "[I", Cond.methodLink RX3 117 yX3_done, Cond.instanceMethod yX3_done, Cond.selects RX3 yX3_done yX3_done, Cond.code yX3_done cX3_done 3 (some .int), Cond.methodLink RX3 66 yX3_joinTo, Cond.instanceMethod yX3_joinTo, Cond.selects RX3 yX3_joinTo yX3_joinTo, Cond.code yX3_joinTo cX3_joinTo 6 none]
def wsX3_timed_r3 : List Cond := [Cond.constantLong RX3 57 (-1), Cond.methodLink RX3 59 yX3_isAfter, Cond.instanceMethod yX3_isAfter, Cond.selects RX3 yX3_isAfter yX3_isAfter, Cond.code yX3_isAfter cX3_isAfter 3 (some .boolean), Cond.methodLink RX3 53 yX3_copyTimed, Cond.instanceMethod yX3_copyTimed, Cond.selects RX3 yX3_copyTimed yX3_copyTimed, Cond.code yX3_copyTimed cX3_copyTimed 3 none]
def wsX3_timed : List Cond := .code yX3_timed cX3_timed 7 (some .int) :: ((wsX3_timed_r1 ++ (wsX3_timed_r2 ++ wsX3_timed_r3)) ++ wsX30)
def wsX3_isDelta : List Cond := .code yX3_isDelta cX3_isDelta 2 (some .boolean) :: ([.fieldLink RX3 72 "DotStoresModel" "deltas" "I", .methodLink RX3 79 yX3_in, .static yX3_in, .initialized RX3, .code yX3_in cX3_in 3 (some .boolean)] ++ wsX30)
def wsX3_join_r1 : List Cond := [Cond.methodLink RX3 94 yX3_isReplica, Cond.instanceMethod yX3_isReplica, Cond.selects RX3 yX3_isReplica yX3_isReplica, Cond.initialized RX3, Cond.code yX3_isReplica cX3_isReplica 2 (some .boolean), Cond.methodLink RX3 79 yX3_in, Cond.static yX3_in, Cond.code yX3_in cX3_in 3 (some .boolean), Cond.methodLink RX3 132 yX3_isDelta, Cond.instanceMethod yX3_isDelta, Cond.selects RX3 yX3_isDelta yX3_isDelta, Cond.code yX3_isDelta cX3_isDelta 2 (some .boolean), Cond.fieldLink RX3 72 "DotStoresModel" "deltas" "I", Cond.methodLink RX3 135 yX3_goes, Cond.instanceMethod yX3_goes, Cond.selects RX3 yX3_goes yX3_goes, Cond.code yX3_goes cX3_goes 2 (some .boolean), Cond.fieldLink RX3 45 "DotStoresModel" "thrown" "I", Cond.methodLink RX3 139 yX3_joined, Cond.instanceMethod yX3_joined, Cond.selects RX3 yX3_joined yX3_joined, Cond.code yX3_joined cX3_joined 3 (some .int), Cond.methodLink RX3 63 yX3_copy, Cond.instanceMethod yX3_copy]
def wsX3_join_r2 : List Cond := [Cond.selects RX3 yX3_copy yX3_copy, Cond.code yX3_copy cX3_copy 4 none, Cond.fieldLink RX3 7 "DotStoresModel" "seen" "[J", Cond.fieldLink RX3 13 "DotStoresModel" "live" "[J", Cond.fieldLink RX3 16 "DotStoresModel" "put" "[I", Cond.fieldLink RX3 20 "DotStoresModel" "taken" "[I", Cond.methodLink RX3 53 yX3_copyTimed, Cond.instanceMethod yX3_copyTimed, Cond.selects RX3 yX3_copyTimed yX3_copyTimed, Cond.code yX3_copyTimed cX3_copyTimed 3 none, Cond.fieldLink RX3 23 "DotStoresModel" "time" "[I", Cond.fieldLink RX3 26 "DotStoresModel" "by" "[I", Cond.fieldLink RX3 29 "DotStoresModel" "isIn" "[Z", Cond.methodLink RX3 66 yX3_joinTo, Cond.instanceMethod yX3_joinTo, Cond.selects RX3 yX3_joinTo yX3_joinTo, Cond.code yX3_joinTo cX3_joinTo 6 none, Cond.constantLong RX3 57 (-1), Cond.methodLink RX3 59 yX3_isAfter, Cond.instanceMethod yX3_isAfter, Cond.selects RX3 yX3_isAfter yX3_isAfter, Cond.code yX3_isAfter cX3_isAfter 3 (some .boolean), Cond.methodLink RX3 69 yX3_isSame, Cond.instanceMethod yX3_isSame]
def wsX3_join_r3 : List Cond := [Cond.selects RX3 yX3_isSame yX3_isSame, Cond.code yX3_isSame cX3_isSame 7 (some .boolean)]
def wsX3_join : List Cond := .code yX3_join cX3_join 3 (some .int) :: ((wsX3_join_r1 ++ (wsX3_join_r2 ++ wsX3_join_r3)) ++ wsX30)
def wsX3_merge_r1 : List Cond := [Cond.methodLink RX3 94 yX3_isReplica, Cond.instanceMethod yX3_isReplica, Cond.selects RX3 yX3_isReplica yX3_isReplica, Cond.initialized RX3, Cond.code yX3_isReplica cX3_isReplica 2 (some .boolean), Cond.methodLink RX3 79 yX3_in, Cond.static yX3_in, Cond.code yX3_in cX3_in 3 (some .boolean), Cond.methodLink RX3 135 yX3_goes, Cond.instanceMethod yX3_goes, Cond.selects RX3 yX3_goes yX3_goes, Cond.code yX3_goes cX3_goes 2 (some .boolean), Cond.fieldLink RX3 45 "DotStoresModel" "thrown" "I", Cond.methodLink RX3 139 yX3_joined, Cond.instanceMethod yX3_joined, Cond.selects RX3 yX3_joined yX3_joined, Cond.code yX3_joined cX3_joined 3 (some .int), Cond.methodLink RX3 63 yX3_copy, Cond.instanceMethod yX3_copy, Cond.selects RX3 yX3_copy yX3_copy, Cond.code yX3_copy cX3_copy 4 none, Cond.fieldLink RX3 7 "DotStoresModel" "seen" "[J", Cond.fieldLink RX3 13 "DotStoresModel" "live" "[J", Cond.fieldLink RX3 16 "DotStoresModel" "put" "[I"]
def wsX3_merge_r2 : List Cond := [Cond.fieldLink RX3 20 "DotStoresModel" "taken" "[I", Cond.methodLink RX3 53 yX3_copyTimed, Cond.instanceMethod yX3_copyTimed, Cond.selects RX3 yX3_copyTimed yX3_copyTimed, Cond.code yX3_copyTimed cX3_copyTimed 3 none, Cond.fieldLink RX3 23 "DotStoresModel" "time" "[I", Cond.fieldLink RX3 26 "DotStoresModel" "by" "[I", Cond.fieldLink RX3 29 "DotStoresModel" "isIn" "[Z", Cond.methodLink RX3 66 yX3_joinTo, Cond.instanceMethod yX3_joinTo, Cond.selects RX3 yX3_joinTo yX3_joinTo, Cond.code yX3_joinTo cX3_joinTo 6 none, Cond.constantLong RX3 57 (-1), Cond.methodLink RX3 59 yX3_isAfter, Cond.instanceMethod yX3_isAfter, Cond.selects RX3 yX3_isAfter yX3_isAfter, Cond.code yX3_isAfter cX3_isAfter 3 (some .boolean), Cond.methodLink RX3 69 yX3_isSame, Cond.instanceMethod yX3_isSame, Cond.selects RX3 yX3_isSame yX3_isSame, Cond.code yX3_isSame cX3_isSame 7 (some .boolean)]
def wsX3_merge : List Cond := .code yX3_merge cX3_merge 3 (some .int) :: ((wsX3_merge_r1 ++ wsX3_merge_r2) ++ wsX30)
def wsX3_group_r1 : List Cond := [Cond.fieldLink RX3 72 "DotStoresModel" "deltas" "I", Cond.fieldLink RX3 45 "DotStoresModel" "thrown" "I", Cond.methodLink RX3 132 yX3_isDelta, Cond.instanceMethod yX3_isDelta, Cond.selects RX3 yX3_isDelta yX3_isDelta, Cond.initialized RX3, Cond.code yX3_isDelta cX3_isDelta 2 (some .boolean), Cond.methodLink RX3 79 yX3_in, Cond.static yX3_in, Cond.code yX3_in cX3_in 3 (some .boolean), Cond.methodLink RX3 105 yX3_fresh, Cond.instanceMethod yX3_fresh, Cond.selects RX3 yX3_fresh yX3_fresh, Cond.code yX3_fresh cX3_fresh 2 (some .int), Cond.methodLink RX3 75 yX3_empty, Cond.instanceMethod yX3_empty, Cond.selects RX3 yX3_empty yX3_empty, Cond.code yX3_empty cX3_empty 3 none, Cond.fieldLink RX3 7 "DotStoresModel" "seen" "[J", Cond.fieldLink RX3 13 "DotStoresModel" "live" "[J", Cond.fieldLink RX3 16 "DotStoresModel" "put" "[I", Cond.fieldLink RX3 20 "DotStoresModel" "taken" "[I", Cond.fieldLink RX3 23 "DotStoresModel" "time" "[I", Cond.fieldLink RX3 26 "DotStoresModel" "by" "[I"]
def wsX3_group_r2 : List Cond := [Cond.fieldLink RX3 29 "DotStoresModel" "isIn" "[Z", Cond.methodLink RX3 66 yX3_joinTo, Cond.instanceMethod yX3_joinTo, Cond.selects RX3 yX3_joinTo yX3_joinTo, Cond.code yX3_joinTo cX3_joinTo 6 none, Cond.constantLong RX3 57 (-1), Cond.methodLink RX3 59 yX3_isAfter, Cond.instanceMethod yX3_isAfter, Cond.selects RX3 yX3_isAfter yX3_isAfter, Cond.code yX3_isAfter cX3_isAfter 3 (some .boolean), Cond.methodLink RX3 53 yX3_copyTimed, Cond.instanceMethod yX3_copyTimed, Cond.selects RX3 yX3_copyTimed yX3_copyTimed, Cond.code yX3_copyTimed cX3_copyTimed 3 none]
def wsX3_group : List Cond := .code yX3_group cX3_group 4 (some .int) :: ((wsX3_group_r1 ++ wsX3_group_r2) ++ wsX30)
def wsX3_whole_r1 : List Cond := [Cond.fieldLink RX3 72 "DotStoresModel" "deltas" "I", Cond.fieldLink RX3 45 "DotStoresModel" "thrown" "I", Cond.methodLink RX3 94 yX3_isReplica, Cond.instanceMethod yX3_isReplica, Cond.selects RX3 yX3_isReplica yX3_isReplica, Cond.initialized RX3, Cond.code yX3_isReplica cX3_isReplica 2 (some .boolean), Cond.methodLink RX3 79 yX3_in, Cond.static yX3_in, Cond.code yX3_in cX3_in 3 (some .boolean), Cond.methodLink RX3 63 yX3_copy, Cond.instanceMethod yX3_copy, Cond.selects RX3 yX3_copy yX3_copy, Cond.code yX3_copy cX3_copy 4 none, Cond.fieldLink RX3 7 "DotStoresModel" "seen" "[J", Cond.fieldLink RX3 13 "DotStoresModel" "live" "[J", Cond.fieldLink RX3 16 "DotStoresModel" "put" "[I", Cond.fieldLink RX3 20 "DotStoresModel" "taken" "[I", Cond.methodLink RX3 53 yX3_copyTimed, Cond.instanceMethod yX3_copyTimed, Cond.selects RX3 yX3_copyTimed yX3_copyTimed, Cond.code yX3_copyTimed cX3_copyTimed 3 none, Cond.fieldLink RX3 23 "DotStoresModel" "time" "[I", Cond.fieldLink RX3 26 "DotStoresModel" "by" "[I"]
def wsX3_whole_r2 : List Cond := [Cond.fieldLink RX3 29 "DotStoresModel" "isIn" "[Z"]
def wsX3_whole : List Cond := .code yX3_whole cX3_whole 2 (some .int) :: ((wsX3_whole_r1 ++ wsX3_whole_r2) ++ wsX30)
def wsX3_deltas : List Cond := .code yX3_deltas cX3_deltas 1 (some .int) :: ([.fieldLink RX3 45 "DotStoresModel" "thrown" "I", .fieldLink RX3 72 "DotStoresModel" "deltas" "I"] ++ wsX30)
def wsX3_has_r1 : List Cond := [Cond.fieldLink RX3 13 "DotStoresModel" "live" "[J", Cond.fieldLink RX3 33 "DotStoresModel" "dotKey" "[I", Cond.fieldLink RX3 36 "DotStoresModel" "dotPart" "[I", Cond.methodLink RX3 94 yX3_isReplica, Cond.instanceMethod yX3_isReplica, Cond.selects RX3 yX3_isReplica yX3_isReplica, Cond.initialized RX3, Cond.code yX3_isReplica cX3_isReplica 2 (some .boolean), Cond.methodLink RX3 79 yX3_in, Cond.static yX3_in, Cond.code yX3_in cX3_in 3 (some .boolean), Cond.methodLink RX3 98 yX3_isKey, Cond.static yX3_isKey, Cond.code yX3_isKey cX3_isKey 1 (some .boolean), Cond.methodLink RX3 120 yX3_isElement, Cond.static yX3_isElement, Cond.code yX3_isElement cX3_isElement 1 (some .boolean), Cond.methodLink RX3 135 yX3_goes, Cond.instanceMethod yX3_goes, Cond.selects RX3 yX3_goes yX3_goes, Cond.code yX3_goes cX3_goes 2 (some .boolean), Cond.fieldLink RX3 45 "DotStoresModel" "thrown" "I", Cond.methodLink RX3 83 yX3_dot, Cond.static yX3_dot]
def wsX3_has_r2 : List Cond := [Cond.code yX3_dot cX3_dot 2 (some .int), Cond.methodLink RX3 49 yX3_isSet, Cond.static yX3_isSet, Cond.code yX3_isSet cX3_isSet 4 (some .boolean)]
def wsX3_has : List Cond := .code yX3_has cX3_has 7 (some .int) :: ((wsX3_has_r1 ++ wsX3_has_r2) ++ wsX30)
def wsX3_enter : List Cond := .code yX3_enter cX3_enter 5 none :: ([.fieldLink RX3 142 "DotStoresModel" "many" "I", .fieldLink RX3 42 "DotStoresModel" "sorted" "[J"] ++ wsX30)
def wsX3_lay : List Cond := .code yX3_lay cX3_lay 6 none :: ([.fieldLink RX3 142 "DotStoresModel" "many" "I", .fieldLink RX3 13 "DotStoresModel" "live" "[J", .fieldLink RX3 33 "DotStoresModel" "dotKey" "[I", .fieldLink RX3 39 "DotStoresModel" "dotValue" "[J", .methodLink RX3 83 yX3_dot, .static yX3_dot, .initialized RX3, .code yX3_dot cX3_dot 2 (some .int), .methodLink RX3 49 yX3_isSet, .static yX3_isSet, .code yX3_isSet cX3_isSet 4 (some .boolean), .methodLink RX3 145 yX3_enter, .instanceMethod yX3_enter, .selects RX3 yX3_enter yX3_enter, .code yX3_enter cX3_enter 5 none, .fieldLink RX3 42 "DotStoresModel" "sorted" "[J"] ++ wsX30)
def wsX3_values_r1 : List Cond := [Cond.fieldLink RX3 142 "DotStoresModel" "many" "I", Cond.methodLink RX3 94 yX3_isReplica, Cond.instanceMethod yX3_isReplica, Cond.selects RX3 yX3_isReplica yX3_isReplica, Cond.initialized RX3, Cond.code yX3_isReplica cX3_isReplica 2 (some .boolean), Cond.methodLink RX3 79 yX3_in, Cond.static yX3_in, Cond.code yX3_in cX3_in 3 (some .boolean), Cond.methodLink RX3 98 yX3_isKey, Cond.static yX3_isKey, Cond.code yX3_isKey cX3_isKey 1 (some .boolean), Cond.methodLink RX3 135 yX3_goes, Cond.instanceMethod yX3_goes, Cond.selects RX3 yX3_goes yX3_goes, Cond.code yX3_goes cX3_goes 2 (some .boolean), Cond.fieldLink RX3 45 "DotStoresModel" "thrown" "I", Cond.methodLink RX3 149 yX3_lay, Cond.instanceMethod yX3_lay, Cond.selects RX3 yX3_lay yX3_lay, Cond.code yX3_lay cX3_lay 6 none, Cond.fieldLink RX3 13 "DotStoresModel" "live" "[J", Cond.fieldLink RX3 33 "DotStoresModel" "dotKey" "[I", Cond.fieldLink RX3 39 "DotStoresModel" "dotValue" "[J"]
def wsX3_values_r2 : List Cond := [Cond.methodLink RX3 83 yX3_dot, Cond.static yX3_dot, Cond.code yX3_dot cX3_dot 2 (some .int), Cond.methodLink RX3 49 yX3_isSet, Cond.static yX3_isSet, Cond.code yX3_isSet cX3_isSet 4 (some .boolean), Cond.methodLink RX3 145 yX3_enter, Cond.instanceMethod yX3_enter, Cond.selects RX3 yX3_enter yX3_enter, Cond.code yX3_enter cX3_enter 5 none, Cond.fieldLink RX3 42 "DotStoresModel" "sorted" "[J"]
def wsX3_values : List Cond := .code yX3_values cX3_values 3 (some .int) :: ((wsX3_values_r1 ++ wsX3_values_r2) ++ wsX30)
def wsX3_value_r1 : List Cond := [Cond.fieldLink RX3 142 "DotStoresModel" "many" "I", Cond.fieldLink RX3 42 "DotStoresModel" "sorted" "[J", Cond.methodLink RX3 94 yX3_isReplica, Cond.instanceMethod yX3_isReplica, Cond.selects RX3 yX3_isReplica yX3_isReplica, Cond.initialized RX3, Cond.code yX3_isReplica cX3_isReplica 2 (some .boolean), Cond.methodLink RX3 79 yX3_in, Cond.static yX3_in, Cond.code yX3_in cX3_in 3 (some .boolean), Cond.methodLink RX3 98 yX3_isKey, Cond.static yX3_isKey, Cond.code yX3_isKey cX3_isKey 1 (some .boolean), Cond.methodLink RX3 135 yX3_goes, Cond.instanceMethod yX3_goes, Cond.selects RX3 yX3_goes yX3_goes, Cond.code yX3_goes cX3_goes 2 (some .boolean), Cond.fieldLink RX3 45 "DotStoresModel" "thrown" "I", Cond.methodLink RX3 149 yX3_lay, Cond.instanceMethod yX3_lay, Cond.selects RX3 yX3_lay yX3_lay, Cond.code yX3_lay cX3_lay 6 none, Cond.fieldLink RX3 13 "DotStoresModel" "live" "[J", Cond.fieldLink RX3 33 "DotStoresModel" "dotKey" "[I"]
def wsX3_value_r2 : List Cond := [Cond.fieldLink RX3 39 "DotStoresModel" "dotValue" "[J", Cond.methodLink RX3 83 yX3_dot, Cond.static yX3_dot, Cond.code yX3_dot cX3_dot 2 (some .int), Cond.methodLink RX3 49 yX3_isSet, Cond.static yX3_isSet, Cond.code yX3_isSet cX3_isSet 4 (some .boolean), Cond.methodLink RX3 145 yX3_enter, Cond.instanceMethod yX3_enter, Cond.selects RX3 yX3_enter yX3_enter, Cond.code yX3_enter cX3_enter 5 none]
def wsX3_value : List Cond := .code yX3_value cX3_value 4 (some .long) :: ((wsX3_value_r1 ++ wsX3_value_r2) ++ wsX30)
def wsX3_sum_r1 : List Cond := [Cond.fieldLink RX3 13 "DotStoresModel" "live" "[J", Cond.fieldLink RX3 33 "DotStoresModel" "dotKey" "[I", Cond.fieldLink RX3 39 "DotStoresModel" "dotValue" "[J", Cond.methodLink RX3 94 yX3_isReplica, Cond.instanceMethod yX3_isReplica, Cond.selects RX3 yX3_isReplica yX3_isReplica, Cond.initialized RX3, Cond.code yX3_isReplica cX3_isReplica 2 (some .boolean), Cond.methodLink RX3 79 yX3_in, Cond.static yX3_in, Cond.code yX3_in cX3_in 3 (some .boolean), Cond.methodLink RX3 98 yX3_isKey, Cond.static yX3_isKey, Cond.code yX3_isKey cX3_isKey 1 (some .boolean), Cond.methodLink RX3 135 yX3_goes, Cond.instanceMethod yX3_goes, Cond.selects RX3 yX3_goes yX3_goes, Cond.code yX3_goes cX3_goes 2 (some .boolean), Cond.fieldLink RX3 45 "DotStoresModel" "thrown" "I", Cond.methodLink RX3 83 yX3_dot, Cond.static yX3_dot, Cond.code yX3_dot cX3_dot 2 (some .int), Cond.methodLink RX3 49 yX3_isSet, Cond.static yX3_isSet]
def wsX3_sum_r2 : List Cond := [Cond.code yX3_isSet cX3_isSet 4 (some .boolean)]
def wsX3_sum : List Cond := .code yX3_sum cX3_sum 8 (some .long) :: ((wsX3_sum_r1 ++ wsX3_sum_r2) ++ wsX30)
def wsX3_keys : List Cond := .code yX3_keys cX3_keys 5 (some .int) :: ([.fieldLink RX3 13 "DotStoresModel" "live" "[J", .fieldLink RX3 33 "DotStoresModel" "dotKey" "[I", .methodLink RX3 94 yX3_isReplica, .instanceMethod yX3_isReplica, .selects RX3 yX3_isReplica yX3_isReplica, .initialized RX3, .code yX3_isReplica cX3_isReplica 2 (some .boolean), .methodLink RX3 79 yX3_in, .static yX3_in, .code yX3_in cX3_in 3 (some .boolean), .methodLink RX3 135 yX3_goes, .instanceMethod yX3_goes, .selects RX3 yX3_goes yX3_goes, .code yX3_goes cX3_goes 2 (some .boolean), .fieldLink RX3 45 "DotStoresModel" "thrown" "I", .methodLink RX3 49 yX3_isSet, .static yX3_isSet, .code yX3_isSet cX3_isSet 4 (some .boolean), .methodLink RX3 83 yX3_dot, .static yX3_dot, .code yX3_dot cX3_dot 2 (some .int)] ++ wsX30)
def wsX3_inTwice : List Cond := .code yX3_inTwice cX3_inTwice 3 (some .int) :: ([.fieldLink RX3 16 "DotStoresModel" "put" "[I", .fieldLink RX3 20 "DotStoresModel" "taken" "[I", .methodLink RX3 94 yX3_isReplica, .instanceMethod yX3_isReplica, .selects RX3 yX3_isReplica yX3_isReplica, .initialized RX3, .code yX3_isReplica cX3_isReplica 2 (some .boolean), .methodLink RX3 79 yX3_in, .static yX3_in, .code yX3_in cX3_in 3 (some .boolean), .methodLink RX3 120 yX3_isElement, .static yX3_isElement, .code yX3_isElement cX3_isElement 1 (some .boolean), .methodLink RX3 135 yX3_goes, .instanceMethod yX3_goes, .selects RX3 yX3_goes yX3_goes, .code yX3_goes cX3_goes 2 (some .boolean), .fieldLink RX3 45 "DotStoresModel" "thrown" "I"] ++ wsX30)
def wsX3_inTimed : List Cond := .code yX3_inTimed cX3_inTimed 5 (some .int) :: ([.fieldLink RX3 29 "DotStoresModel" "isIn" "[Z", .fieldLink RX3 23 "DotStoresModel" "time" "[I", .fieldLink RX3 26 "DotStoresModel" "by" "[I", .methodLink RX3 94 yX3_isReplica, .instanceMethod yX3_isReplica, .selects RX3 yX3_isReplica yX3_isReplica, .initialized RX3, .code yX3_isReplica cX3_isReplica 2 (some .boolean), .methodLink RX3 79 yX3_in, .static yX3_in, .code yX3_in cX3_in 3 (some .boolean), .methodLink RX3 120 yX3_isElement, .static yX3_isElement, .code yX3_isElement cX3_isElement 1 (some .boolean), .methodLink RX3 135 yX3_goes, .instanceMethod yX3_goes, .selects RX3 yX3_goes yX3_goes, .code yX3_goes cX3_goes 2 (some .boolean), .fieldLink RX3 45 "DotStoresModel" "thrown" "I"] ++ wsX30)
def wsX3_countOf : List Cond := .code yX3_countOf cX3_countOf 6 (some .int) :: ([.methodLink RX3 49 yX3_isSet, .static yX3_isSet, .initialized RX3, .code yX3_isSet cX3_isSet 4 (some .boolean)])
def wsX3_seen_r1 : List Cond := [Cond.fieldLink RX3 7 "DotStoresModel" "seen" "[J", Cond.methodLink RX3 94 yX3_isReplica, Cond.instanceMethod yX3_isReplica, Cond.selects RX3 yX3_isReplica yX3_isReplica, Cond.initialized RX3, Cond.code yX3_isReplica cX3_isReplica 2 (some .boolean), Cond.methodLink RX3 79 yX3_in, Cond.static yX3_in, Cond.code yX3_in cX3_in 3 (some .boolean), Cond.methodLink RX3 135 yX3_goes, Cond.instanceMethod yX3_goes, Cond.selects RX3 yX3_goes yX3_goes, Cond.code yX3_goes cX3_goes 2 (some .boolean), Cond.fieldLink RX3 45 "DotStoresModel" "thrown" "I", Cond.methodLink RX3 91 yX3_greatest, Cond.instanceMethod yX3_greatest, Cond.selects RX3 yX3_greatest yX3_greatest, Cond.code yX3_greatest cX3_greatest 4 (some .int), Cond.methodLink RX3 49 yX3_isSet, Cond.static yX3_isSet, Cond.code yX3_isSet cX3_isSet 4 (some .boolean), Cond.methodLink RX3 152 yX3_countOf, Cond.instanceMethod yX3_countOf, Cond.selects RX3 yX3_countOf yX3_countOf]
def wsX3_seen_r2 : List Cond := [Cond.code yX3_countOf cX3_countOf 6 (some .int)]
def wsX3_seen : List Cond := .code yX3_seen cX3_seen 5 (some .int) :: ((wsX3_seen_r1 ++ wsX3_seen_r2) ++ wsX30)
def wsX3_size_r1 : List Cond := [Cond.fieldLink RX3 13 "DotStoresModel" "live" "[J", Cond.fieldLink RX3 7 "DotStoresModel" "seen" "[J", Cond.methodLink RX3 94 yX3_isReplica, Cond.instanceMethod yX3_isReplica, Cond.selects RX3 yX3_isReplica yX3_isReplica, Cond.initialized RX3, Cond.code yX3_isReplica cX3_isReplica 2 (some .boolean), Cond.methodLink RX3 79 yX3_in, Cond.static yX3_in, Cond.code yX3_in cX3_in 3 (some .boolean), Cond.methodLink RX3 132 yX3_isDelta, Cond.instanceMethod yX3_isDelta, Cond.selects RX3 yX3_isDelta yX3_isDelta, Cond.code yX3_isDelta cX3_isDelta 2 (some .boolean), Cond.fieldLink RX3 72 "DotStoresModel" "deltas" "I", Cond.methodLink RX3 135 yX3_goes, Cond.instanceMethod yX3_goes, Cond.selects RX3 yX3_goes yX3_goes, Cond.code yX3_goes cX3_goes 2 (some .boolean), Cond.fieldLink RX3 45 "DotStoresModel" "thrown" "I", Cond.methodLink RX3 152 yX3_countOf, Cond.instanceMethod yX3_countOf, Cond.selects RX3 yX3_countOf yX3_countOf, Cond.code yX3_countOf cX3_countOf 6 (some .int)]
def wsX3_size_r2 : List Cond := [Cond.methodLink RX3 49 yX3_isSet, Cond.static yX3_isSet, Cond.code yX3_isSet cX3_isSet 4 (some .boolean)]
def wsX3_size : List Cond := .code yX3_size cX3_size 8 (some .int) :: ((wsX3_size_r1 ++ wsX3_size_r2) ++ wsX30)
def wsX3_same : List Cond := .code yX3_same cX3_same 3 (some .int) :: ([.methodLink RX3 94 yX3_isReplica, .instanceMethod yX3_isReplica, .selects RX3 yX3_isReplica yX3_isReplica, .initialized RX3, .code yX3_isReplica cX3_isReplica 2 (some .boolean), .methodLink RX3 79 yX3_in, .static yX3_in, .code yX3_in cX3_in 3 (some .boolean), .methodLink RX3 135 yX3_goes, .instanceMethod yX3_goes, .selects RX3 yX3_goes yX3_goes, .code yX3_goes cX3_goes 2 (some .boolean), .fieldLink RX3 45 "DotStoresModel" "thrown" "I", .methodLink RX3 69 yX3_isSame, .instanceMethod yX3_isSame, .selects RX3 yX3_isSame yX3_isSame, .code yX3_isSame cX3_isSame 7 (some .boolean), .fieldLink RX3 16 "DotStoresModel" "put" "[I", .fieldLink RX3 20 "DotStoresModel" "taken" "[I", .fieldLink RX3 7 "DotStoresModel" "seen" "[J", .fieldLink RX3 13 "DotStoresModel" "live" "[J", .fieldLink RX3 23 "DotStoresModel" "time" "[I", .fieldLink RX3 26 "DotStoresModel" "by" "[I", .fieldLink RX3 29 "DotStoresModel" "isIn" "[Z"] ++ wsX30)
def wsX3_below_r1 : List Cond := [Cond.methodLink RX3 94 yX3_isReplica, Cond.instanceMethod yX3_isReplica, Cond.selects RX3 yX3_isReplica yX3_isReplica, Cond.initialized RX3, Cond.code yX3_isReplica cX3_isReplica 2 (some .boolean), Cond.methodLink RX3 79 yX3_in, Cond.static yX3_in, Cond.code yX3_in cX3_in 3 (some .boolean), Cond.methodLink RX3 135 yX3_goes, Cond.instanceMethod yX3_goes, Cond.selects RX3 yX3_goes yX3_goes, Cond.code yX3_goes cX3_goes 2 (some .boolean), Cond.fieldLink RX3 45 "DotStoresModel" "thrown" "I", Cond.methodLink RX3 63 yX3_copy, Cond.instanceMethod yX3_copy, Cond.selects RX3 yX3_copy yX3_copy, Cond.code yX3_copy cX3_copy 4 none, Cond.fieldLink RX3 7 "DotStoresModel" "seen" "[J", Cond.fieldLink RX3 13 "DotStoresModel" "live" "[J", Cond.fieldLink RX3 16 "DotStoresModel" "put" "[I", Cond.fieldLink RX3 20 "DotStoresModel" "taken" "[I", Cond.methodLink RX3 53 yX3_copyTimed, Cond.instanceMethod yX3_copyTimed, Cond.selects RX3 yX3_copyTimed yX3_copyTimed]
def wsX3_below_r2 : List Cond := [Cond.code yX3_copyTimed cX3_copyTimed 3 none, Cond.fieldLink RX3 23 "DotStoresModel" "time" "[I", Cond.fieldLink RX3 26 "DotStoresModel" "by" "[I", Cond.fieldLink RX3 29 "DotStoresModel" "isIn" "[Z", Cond.methodLink RX3 66 yX3_joinTo, Cond.instanceMethod yX3_joinTo, Cond.selects RX3 yX3_joinTo yX3_joinTo, Cond.code yX3_joinTo cX3_joinTo 6 none, Cond.constantLong RX3 57 (-1), Cond.methodLink RX3 59 yX3_isAfter, Cond.instanceMethod yX3_isAfter, Cond.selects RX3 yX3_isAfter yX3_isAfter, Cond.code yX3_isAfter cX3_isAfter 3 (some .boolean), Cond.methodLink RX3 69 yX3_isSame, Cond.instanceMethod yX3_isSame, Cond.selects RX3 yX3_isSame yX3_isSame, Cond.code yX3_isSame cX3_isSame 7 (some .boolean)]
def wsX3_below : List Cond := .code yX3_below cX3_below 3 (some .int) :: ((wsX3_below_r1 ++ wsX3_below_r2) ++ wsX30)
theorem dX0_init_0 : decode cX0_init 0 = .ok (.aload_n 0, 1) := by decide +kernel
theorem dX0_init_1 : decode cX0_init 1 = .ok (.invokespecial 3, 3) := by decide +kernel
theorem dX0_init_4 : decode cX0_init 4 = .ok (.aload_n 0, 1) := by decide +kernel
theorem dX0_init_5 : decode cX0_init 5 = .ok (.sipush 250, 3) := by decide +kernel
theorem dX0_init_8 : decode cX0_init 8 = .ok (.newarray .int, 2) := by decide +kernel
theorem dX0_init_10 : decode cX0_init 10 = .ok (.putfield 9, 3) := by decide +kernel
theorem dX0_init_13 : decode cX0_init 13 = .ok (.aload_n 0, 1) := by decide +kernel
theorem dX0_init_14 : decode cX0_init 14 = .ok (.sipush 250, 3) := by decide +kernel
theorem dX0_init_17 : decode cX0_init 17 = .ok (.newarray .int, 2) := by decide +kernel
theorem dX0_init_19 : decode cX0_init 19 = .ok (.putfield 15, 3) := by decide +kernel
theorem dX0_init_22 : decode cX0_init 22 = .ok (.aload_n 0, 1) := by decide +kernel
theorem dX0_init_23 : decode cX0_init 23 = .ok (.sipush 250, 3) := by decide +kernel
theorem dX0_init_26 : decode cX0_init 26 = .ok (.newarray .int, 2) := by decide +kernel
theorem dX0_init_28 : decode cX0_init 28 = .ok (.putfield 18, 3) := by decide +kernel
theorem dX0_init_31 : decode cX0_init 31 = .ok (.aload_n 0, 1) := by decide +kernel
theorem dX0_init_32 : decode cX0_init 32 = .ok (.sipush 250, 3) := by decide +kernel
theorem dX0_init_35 : decode cX0_init 35 = .ok (.newarray .int, 2) := by decide +kernel
theorem dX0_init_37 : decode cX0_init 37 = .ok (.putfield 21, 3) := by decide +kernel
theorem dX0_init_40 : decode cX0_init 40 = .ok (.aload_n 0, 1) := by decide +kernel
theorem dX0_init_41 : decode cX0_init 41 = .ok (.sipush 250, 3) := by decide +kernel
theorem dX0_init_44 : decode cX0_init 44 = .ok (.newarray .long, 2) := by decide +kernel
theorem dX0_init_46 : decode cX0_init 46 = .ok (.putfield 24, 3) := by decide +kernel
theorem dX0_init_49 : decode cX0_init 49 = .ok (.aload_n 0, 1) := by decide +kernel
theorem dX0_init_50 : decode cX0_init 50 = .ok (.bipush 6, 2) := by decide +kernel
theorem dX0_init_52 : decode cX0_init 52 = .ok (.newarray .int, 2) := by decide +kernel
theorem dX0_init_54 : decode cX0_init 54 = .ok (.putfield 28, 3) := by decide +kernel
theorem dX0_init_57 : decode cX0_init 57 = .ok (.aload_n 0, 1) := by decide +kernel
theorem dX0_init_58 : decode cX0_init 58 = .ok (.iconst 0, 1) := by decide +kernel
theorem dX0_init_59 : decode cX0_init 59 = .ok (.putfield 31, 3) := by decide +kernel
theorem dX0_init_62 : decode cX0_init 62 = .ok (.return_, 1) := by decide +kernel
theorem dX0_canMake_0 : decode cX0_canMake 0 = .ok (.aload_n 0, 1) := by decide +kernel
theorem dX0_canMake_1 : decode cX0_canMake 1 = .ok (.getfield 31, 3) := by decide +kernel
theorem dX0_canMake_4 : decode cX0_canMake 4 = .ok (.sipush 250, 3) := by decide +kernel
theorem dX0_canMake_7 : decode cX0_canMake 7 = .ok (.if_icmp .ge 18, 3) := by decide +kernel
theorem dX0_canMake_10 : decode cX0_canMake 10 = .ok (.aload_n 0, 1) := by decide +kernel
theorem dX0_canMake_11 : decode cX0_canMake 11 = .ok (.getfield 28, 3) := by decide +kernel
theorem dX0_canMake_14 : decode cX0_canMake 14 = .ok (.iload_n 1, 1) := by decide +kernel
theorem dX0_canMake_15 : decode cX0_canMake 15 = .ok (.iaload, 1) := by decide +kernel
theorem dX0_canMake_16 : decode cX0_canMake 16 = .ok (.bipush 100, 2) := by decide +kernel
theorem dX0_canMake_18 : decode cX0_canMake 18 = .ok (.if_icmp .ge 7, 3) := by decide +kernel
theorem dX0_canMake_21 : decode cX0_canMake 21 = .ok (.iconst 1, 1) := by decide +kernel
theorem dX0_canMake_22 : decode cX0_canMake 22 = .ok (.goto 4, 3) := by decide +kernel
theorem dX0_canMake_25 : decode cX0_canMake 25 = .ok (.iconst 0, 1) := by decide +kernel
theorem dX0_canMake_26 : decode cX0_canMake 26 = .ok (.ireturn, 1) := by decide +kernel
theorem dX0_make_0 : decode cX0_make 0 = .ok (.aload_n 0, 1) := by decide +kernel
theorem dX0_make_1 : decode cX0_make 1 = .ok (.getfield 31, 3) := by decide +kernel
theorem dX0_make_4 : decode cX0_make 4 = .ok (.istore 6, 2) := by decide +kernel
theorem dX0_make_6 : decode cX0_make 6 = .ok (.aload_n 0, 1) := by decide +kernel
theorem dX0_make_7 : decode cX0_make 7 = .ok (.getfield 28, 3) := by decide +kernel
theorem dX0_make_10 : decode cX0_make 10 = .ok (.iload_n 1, 1) := by decide +kernel
theorem dX0_make_11 : decode cX0_make 11 = .ok (.dup2, 1) := by decide +kernel
theorem dX0_make_12 : decode cX0_make 12 = .ok (.iaload, 1) := by decide +kernel
theorem dX0_make_13 : decode cX0_make 13 = .ok (.iconst 1, 1) := by decide +kernel
theorem dX0_make_14 : decode cX0_make 14 = .ok (.iadd, 1) := by decide +kernel
theorem dX0_make_15 : decode cX0_make 15 = .ok (.iastore, 1) := by decide +kernel
theorem dX0_make_16 : decode cX0_make 16 = .ok (.aload_n 0, 1) := by decide +kernel
theorem dX0_make_17 : decode cX0_make 17 = .ok (.getfield 9, 3) := by decide +kernel
theorem dX0_make_20 : decode cX0_make 20 = .ok (.iload 6, 2) := by decide +kernel
theorem dX0_make_22 : decode cX0_make 22 = .ok (.iload_n 1, 1) := by decide +kernel
theorem dX0_make_23 : decode cX0_make 23 = .ok (.iastore, 1) := by decide +kernel
theorem dX0_make_24 : decode cX0_make 24 = .ok (.aload_n 0, 1) := by decide +kernel
theorem dX0_make_25 : decode cX0_make 25 = .ok (.getfield 15, 3) := by decide +kernel
theorem dX0_make_28 : decode cX0_make 28 = .ok (.iload 6, 2) := by decide +kernel
theorem dX0_make_30 : decode cX0_make 30 = .ok (.aload_n 0, 1) := by decide +kernel
theorem dX0_make_31 : decode cX0_make 31 = .ok (.getfield 28, 3) := by decide +kernel
theorem dX0_make_34 : decode cX0_make 34 = .ok (.iload_n 1, 1) := by decide +kernel
theorem dX0_make_35 : decode cX0_make 35 = .ok (.iaload, 1) := by decide +kernel
theorem dX0_make_36 : decode cX0_make 36 = .ok (.iastore, 1) := by decide +kernel
theorem dX0_make_37 : decode cX0_make 37 = .ok (.aload_n 0, 1) := by decide +kernel
theorem dX0_make_38 : decode cX0_make 38 = .ok (.getfield 18, 3) := by decide +kernel
theorem dX0_make_41 : decode cX0_make 41 = .ok (.iload 6, 2) := by decide +kernel
theorem dX0_make_43 : decode cX0_make 43 = .ok (.iload_n 2, 1) := by decide +kernel
theorem dX0_make_44 : decode cX0_make 44 = .ok (.iastore, 1) := by decide +kernel
theorem dX0_make_45 : decode cX0_make 45 = .ok (.aload_n 0, 1) := by decide +kernel
theorem dX0_make_46 : decode cX0_make 46 = .ok (.getfield 21, 3) := by decide +kernel
theorem dX0_make_49 : decode cX0_make 49 = .ok (.iload 6, 2) := by decide +kernel
theorem dX0_make_51 : decode cX0_make 51 = .ok (.iload_n 3, 1) := by decide +kernel
theorem dX0_make_52 : decode cX0_make 52 = .ok (.iastore, 1) := by decide +kernel
theorem dX0_make_53 : decode cX0_make 53 = .ok (.aload_n 0, 1) := by decide +kernel
theorem dX0_make_54 : decode cX0_make 54 = .ok (.getfield 24, 3) := by decide +kernel
theorem dX0_make_57 : decode cX0_make 57 = .ok (.iload 6, 2) := by decide +kernel
theorem dX0_make_59 : decode cX0_make 59 = .ok (.lload 4, 2) := by decide +kernel
theorem dX0_make_61 : decode cX0_make 61 = .ok (.lastore, 1) := by decide +kernel
theorem dX0_make_62 : decode cX0_make 62 = .ok (.aload_n 0, 1) := by decide +kernel
theorem dX0_make_63 : decode cX0_make 63 = .ok (.dup, 1) := by decide +kernel
theorem dX0_make_64 : decode cX0_make 64 = .ok (.getfield 31, 3) := by decide +kernel
theorem dX0_make_67 : decode cX0_make 67 = .ok (.iconst 1, 1) := by decide +kernel
theorem dX0_make_68 : decode cX0_make 68 = .ok (.iadd, 1) := by decide +kernel
theorem dX0_make_69 : decode cX0_make 69 = .ok (.putfield 31, 3) := by decide +kernel
theorem dX0_make_72 : decode cX0_make 72 = .ok (.iload 6, 2) := by decide +kernel
theorem dX0_make_74 : decode cX0_make 74 = .ok (.ireturn, 1) := by decide +kernel
theorem dX0_fits_0 : decode cX0_fits 0 = .ok (.aload_n 0, 1) := by decide +kernel
theorem dX0_fits_1 : decode cX0_fits 1 = .ok (.getfield 18, 3) := by decide +kernel
theorem dX0_fits_4 : decode cX0_fits 4 = .ok (.iload_n 1, 1) := by decide +kernel
theorem dX0_fits_5 : decode cX0_fits 5 = .ok (.iaload, 1) := by decide +kernel
theorem dX0_fits_6 : decode cX0_fits 6 = .ok (.iload_n 2, 1) := by decide +kernel
theorem dX0_fits_7 : decode cX0_fits 7 = .ok (.if_icmp .ne 39, 3) := by decide +kernel
theorem dX0_fits_10 : decode cX0_fits 10 = .ok (.iload_n 3, 1) := by decide +kernel
theorem dX0_fits_11 : decode cX0_fits 11 = .ok (.iconst (-1), 1) := by decide +kernel
theorem dX0_fits_12 : decode cX0_fits 12 = .ok (.if_icmp .eq 13, 3) := by decide +kernel
theorem dX0_fits_15 : decode cX0_fits 15 = .ok (.aload_n 0, 1) := by decide +kernel
theorem dX0_fits_16 : decode cX0_fits 16 = .ok (.getfield 21, 3) := by decide +kernel
theorem dX0_fits_19 : decode cX0_fits 19 = .ok (.iload_n 1, 1) := by decide +kernel
theorem dX0_fits_20 : decode cX0_fits 20 = .ok (.iaload, 1) := by decide +kernel
theorem dX0_fits_21 : decode cX0_fits 21 = .ok (.iload_n 3, 1) := by decide +kernel
theorem dX0_fits_22 : decode cX0_fits 22 = .ok (.if_icmp .ne 24, 3) := by decide +kernel
theorem dX0_fits_25 : decode cX0_fits 25 = .ok (.iload 4, 2) := by decide +kernel
theorem dX0_fits_27 : decode cX0_fits 27 = .ok (.iconst (-1), 1) := by decide +kernel
theorem dX0_fits_28 : decode cX0_fits 28 = .ok (.if_icmp .eq 14, 3) := by decide +kernel
theorem dX0_fits_31 : decode cX0_fits 31 = .ok (.aload_n 0, 1) := by decide +kernel
theorem dX0_fits_32 : decode cX0_fits 32 = .ok (.getfield 9, 3) := by decide +kernel
theorem dX0_fits_35 : decode cX0_fits 35 = .ok (.iload_n 1, 1) := by decide +kernel
theorem dX0_fits_36 : decode cX0_fits 36 = .ok (.iaload, 1) := by decide +kernel
theorem dX0_fits_37 : decode cX0_fits 37 = .ok (.iload 4, 2) := by decide +kernel
theorem dX0_fits_39 : decode cX0_fits 39 = .ok (.if_icmp .ne 7, 3) := by decide +kernel
theorem dX0_fits_42 : decode cX0_fits 42 = .ok (.iconst 1, 1) := by decide +kernel
theorem dX0_fits_43 : decode cX0_fits 43 = .ok (.goto 4, 3) := by decide +kernel
theorem dX0_fits_46 : decode cX0_fits 46 = .ok (.iconst 0, 1) := by decide +kernel
theorem dX0_fits_47 : decode cX0_fits 47 = .ok (.ireturn, 1) := by decide +kernel
theorem dX1_init_0 : decode cX1_init 0 = .ok (.aload_n 0, 1) := by decide +kernel
theorem dX1_init_1 : decode cX1_init 1 = .ok (.invokespecial 3, 3) := by decide +kernel
theorem dX1_init_4 : decode cX1_init 4 = .ok (.aload_n 0, 1) := by decide +kernel
theorem dX1_init_5 : decode cX1_init 5 = .ok (.iconst 4, 1) := by decide +kernel
theorem dX1_init_6 : decode cX1_init 6 = .ok (.newarray .long, 2) := by decide +kernel
theorem dX1_init_8 : decode cX1_init 8 = .ok (.putfield 9, 3) := by decide +kernel
theorem dX1_init_11 : decode cX1_init 11 = .ok (.aload_n 0, 1) := by decide +kernel
theorem dX1_init_12 : decode cX1_init 12 = .ok (.iconst 4, 1) := by decide +kernel
theorem dX1_init_13 : decode cX1_init 13 = .ok (.newarray .long, 2) := by decide +kernel
theorem dX1_init_15 : decode cX1_init 15 = .ok (.putfield 15, 3) := by decide +kernel
theorem dX1_init_18 : decode cX1_init 18 = .ok (.aload_n 0, 1) := by decide +kernel
theorem dX1_init_19 : decode cX1_init 19 = .ok (.bipush 32, 2) := by decide +kernel
theorem dX1_init_21 : decode cX1_init 21 = .ok (.newarray .int, 2) := by decide +kernel
theorem dX1_init_23 : decode cX1_init 23 = .ok (.putfield 18, 3) := by decide +kernel
theorem dX1_init_26 : decode cX1_init 26 = .ok (.aload_n 0, 1) := by decide +kernel
theorem dX1_init_27 : decode cX1_init 27 = .ok (.iconst 0, 1) := by decide +kernel
theorem dX1_init_28 : decode cX1_init 28 = .ok (.putfield 22, 3) := by decide +kernel
theorem dX1_init_31 : decode cX1_init 31 = .ok (.aload_n 0, 1) := by decide +kernel
theorem dX1_init_32 : decode cX1_init 32 = .ok (.iconst 0, 1) := by decide +kernel
theorem dX1_init_33 : decode cX1_init 33 = .ok (.putfield 26, 3) := by decide +kernel
theorem dX1_init_36 : decode cX1_init 36 = .ok (.return_, 1) := by decide +kernel
theorem dX1_isSeen_0 : decode cX1_isSeen 0 = .ok (.aload_n 0, 1) := by decide +kernel
theorem dX1_isSeen_1 : decode cX1_isSeen 1 = .ok (.getfield 9, 3) := by decide +kernel
theorem dX1_isSeen_4 : decode cX1_isSeen 4 = .ok (.iload_n 1, 1) := by decide +kernel
theorem dX1_isSeen_5 : decode cX1_isSeen 5 = .ok (.bipush 64, 2) := by decide +kernel
theorem dX1_isSeen_7 : decode cX1_isSeen 7 = .ok (.idiv, 1) := by decide +kernel
theorem dX1_isSeen_8 : decode cX1_isSeen 8 = .ok (.laload, 1) := by decide +kernel
theorem dX1_isSeen_9 : decode cX1_isSeen 9 = .ok (.iload_n 1, 1) := by decide +kernel
theorem dX1_isSeen_10 : decode cX1_isSeen 10 = .ok (.bipush 64, 2) := by decide +kernel
theorem dX1_isSeen_12 : decode cX1_isSeen 12 = .ok (.irem, 1) := by decide +kernel
theorem dX1_isSeen_13 : decode cX1_isSeen 13 = .ok (.lushr, 1) := by decide +kernel
theorem dX1_isSeen_14 : decode cX1_isSeen 14 = .ok (.lconst 1, 1) := by decide +kernel
theorem dX1_isSeen_15 : decode cX1_isSeen 15 = .ok (.land, 1) := by decide +kernel
theorem dX1_isSeen_16 : decode cX1_isSeen 16 = .ok (.lconst 0, 1) := by decide +kernel
theorem dX1_isSeen_17 : decode cX1_isSeen 17 = .ok (.lcmp, 1) := by decide +kernel
theorem dX1_isSeen_18 : decode cX1_isSeen 18 = .ok (.ifCond .eq 7, 3) := by decide +kernel
theorem dX1_isSeen_21 : decode cX1_isSeen 21 = .ok (.iconst 1, 1) := by decide +kernel
theorem dX1_isSeen_22 : decode cX1_isSeen 22 = .ok (.goto 4, 3) := by decide +kernel
theorem dX1_isSeen_25 : decode cX1_isSeen 25 = .ok (.iconst 0, 1) := by decide +kernel
theorem dX1_isSeen_26 : decode cX1_isSeen 26 = .ok (.ireturn, 1) := by decide +kernel
theorem dX1_isLive_0 : decode cX1_isLive 0 = .ok (.aload_n 0, 1) := by decide +kernel
theorem dX1_isLive_1 : decode cX1_isLive 1 = .ok (.getfield 15, 3) := by decide +kernel
theorem dX1_isLive_4 : decode cX1_isLive 4 = .ok (.iload_n 1, 1) := by decide +kernel
theorem dX1_isLive_5 : decode cX1_isLive 5 = .ok (.bipush 64, 2) := by decide +kernel
theorem dX1_isLive_7 : decode cX1_isLive 7 = .ok (.idiv, 1) := by decide +kernel
theorem dX1_isLive_8 : decode cX1_isLive 8 = .ok (.laload, 1) := by decide +kernel
theorem dX1_isLive_9 : decode cX1_isLive 9 = .ok (.iload_n 1, 1) := by decide +kernel
theorem dX1_isLive_10 : decode cX1_isLive 10 = .ok (.bipush 64, 2) := by decide +kernel
theorem dX1_isLive_12 : decode cX1_isLive 12 = .ok (.irem, 1) := by decide +kernel
theorem dX1_isLive_13 : decode cX1_isLive 13 = .ok (.lushr, 1) := by decide +kernel
theorem dX1_isLive_14 : decode cX1_isLive 14 = .ok (.lconst 1, 1) := by decide +kernel
theorem dX1_isLive_15 : decode cX1_isLive 15 = .ok (.land, 1) := by decide +kernel
theorem dX1_isLive_16 : decode cX1_isLive 16 = .ok (.lconst 0, 1) := by decide +kernel
theorem dX1_isLive_17 : decode cX1_isLive 17 = .ok (.lcmp, 1) := by decide +kernel
theorem dX1_isLive_18 : decode cX1_isLive 18 = .ok (.ifCond .eq 7, 3) := by decide +kernel
theorem dX1_isLive_21 : decode cX1_isLive 21 = .ok (.iconst 1, 1) := by decide +kernel
theorem dX1_isLive_22 : decode cX1_isLive 22 = .ok (.goto 4, 3) := by decide +kernel
theorem dX1_isLive_25 : decode cX1_isLive 25 = .ok (.iconst 0, 1) := by decide +kernel
theorem dX1_isLive_26 : decode cX1_isLive 26 = .ok (.ireturn, 1) := by decide +kernel
theorem dX1_see_0 : decode cX1_see 0 = .ok (.aload_n 0, 1) := by decide +kernel
theorem dX1_see_1 : decode cX1_see 1 = .ok (.getfield 9, 3) := by decide +kernel
theorem dX1_see_4 : decode cX1_see 4 = .ok (.iload_n 1, 1) := by decide +kernel
theorem dX1_see_5 : decode cX1_see 5 = .ok (.bipush 64, 2) := by decide +kernel
theorem dX1_see_7 : decode cX1_see 7 = .ok (.idiv, 1) := by decide +kernel
theorem dX1_see_8 : decode cX1_see 8 = .ok (.dup2, 1) := by decide +kernel
theorem dX1_see_9 : decode cX1_see 9 = .ok (.laload, 1) := by decide +kernel
theorem dX1_see_10 : decode cX1_see 10 = .ok (.lconst 1, 1) := by decide +kernel
theorem dX1_see_11 : decode cX1_see 11 = .ok (.iload_n 1, 1) := by decide +kernel
theorem dX1_see_12 : decode cX1_see 12 = .ok (.bipush 64, 2) := by decide +kernel
theorem dX1_see_14 : decode cX1_see 14 = .ok (.irem, 1) := by decide +kernel
theorem dX1_see_15 : decode cX1_see 15 = .ok (.lshl, 1) := by decide +kernel
theorem dX1_see_16 : decode cX1_see 16 = .ok (.lor, 1) := by decide +kernel
theorem dX1_see_17 : decode cX1_see 17 = .ok (.lastore, 1) := by decide +kernel
theorem dX1_see_18 : decode cX1_see 18 = .ok (.return_, 1) := by decide +kernel
set_option maxRecDepth 20000 in
theorem ggX1_enliven_X1_see : GoodIn wsX1_enliven wsX1_see := goodIn_r _ [6, 7, 8, 9, 10, 11, 12] (by decide +kernel) (by decide +kernel)
set_option maxRecDepth 20000 in
theorem gX1_enliven_X1_see : GoodIn wsX1_enliven (wsV RX1 29 RX1 yX1_see wsX1_see) := goodIn_app (goodIn_of _ (by decide +kernel)) ggX1_enliven_X1_see
theorem dX1_enliven_0 : decode cX1_enliven 0 = .ok (.aload_n 0, 1) := by decide +kernel
theorem dX1_enliven_1 : decode cX1_enliven 1 = .ok (.iload_n 1, 1) := by decide +kernel
theorem dX1_enliven_2 : decode cX1_enliven 2 = .ok (.invokevirtual 29, 3) := by decide +kernel
theorem dX1_enliven_5 : decode cX1_enliven 5 = .ok (.aload_n 0, 1) := by decide +kernel
theorem dX1_enliven_6 : decode cX1_enliven 6 = .ok (.getfield 15, 3) := by decide +kernel
theorem dX1_enliven_9 : decode cX1_enliven 9 = .ok (.iload_n 1, 1) := by decide +kernel
theorem dX1_enliven_10 : decode cX1_enliven 10 = .ok (.bipush 64, 2) := by decide +kernel
theorem dX1_enliven_12 : decode cX1_enliven 12 = .ok (.idiv, 1) := by decide +kernel
theorem dX1_enliven_13 : decode cX1_enliven 13 = .ok (.dup2, 1) := by decide +kernel
theorem dX1_enliven_14 : decode cX1_enliven 14 = .ok (.laload, 1) := by decide +kernel
theorem dX1_enliven_15 : decode cX1_enliven 15 = .ok (.lconst 1, 1) := by decide +kernel
theorem dX1_enliven_16 : decode cX1_enliven 16 = .ok (.iload_n 1, 1) := by decide +kernel
theorem dX1_enliven_17 : decode cX1_enliven 17 = .ok (.bipush 64, 2) := by decide +kernel
theorem dX1_enliven_19 : decode cX1_enliven 19 = .ok (.irem, 1) := by decide +kernel
theorem dX1_enliven_20 : decode cX1_enliven 20 = .ok (.lshl, 1) := by decide +kernel
theorem dX1_enliven_21 : decode cX1_enliven 21 = .ok (.lor, 1) := by decide +kernel
theorem dX1_enliven_22 : decode cX1_enliven 22 = .ok (.lastore, 1) := by decide +kernel
theorem dX1_enliven_23 : decode cX1_enliven 23 = .ok (.return_, 1) := by decide +kernel
set_option maxRecDepth 20000 in
theorem ggX1_take_X1_takeDots : GoodIn wsX1_take wsX1_takeDots := goodIn_r _ [5, 6, 7, 8, 20, 21, 22, 23, 24] (by decide +kernel) (by decide +kernel)
set_option maxRecDepth 20000 in
theorem gX1_take_X1_takeDots : GoodIn wsX1_take (wsV RX1 33 RX1 yX1_takeDots wsX1_takeDots) := goodIn_app (goodIn_of _ (by decide +kernel)) ggX1_take_X1_takeDots
set_option maxRecDepth 20000 in
theorem ggX1_take_X1_takeTwice : GoodIn wsX1_take wsX1_takeTwice := goodIn_r _ [12, 13, 14, 20, 21, 22, 23, 24] (by decide +kernel) (by decide +kernel)
set_option maxRecDepth 20000 in
theorem gX1_take_X1_takeTwice : GoodIn wsX1_take (wsV RX1 37 RX1 yX1_takeTwice wsX1_takeTwice) := goodIn_app (goodIn_of _ (by decide +kernel)) ggX1_take_X1_takeTwice
set_option maxRecDepth 20000 in
theorem ggX1_take_X1_takeTimed : GoodIn wsX1_take wsX1_takeTimed := goodIn_r _ [18, 19, 20, 21, 22, 23, 24] (by decide +kernel) (by decide +kernel)
set_option maxRecDepth 20000 in
theorem gX1_take_X1_takeTimed : GoodIn wsX1_take (wsV RX1 40 RX1 yX1_takeTimed wsX1_takeTimed) := goodIn_app (goodIn_of _ (by decide +kernel)) ggX1_take_X1_takeTimed
theorem dX1_take_0 : decode cX1_take 0 = .ok (.aload_n 0, 1) := by decide +kernel
theorem dX1_take_1 : decode cX1_take 1 = .ok (.aload_n 1, 1) := by decide +kernel
theorem dX1_take_2 : decode cX1_take 2 = .ok (.invokevirtual 33, 3) := by decide +kernel
theorem dX1_take_5 : decode cX1_take 5 = .ok (.istore_n 2, 1) := by decide +kernel
theorem dX1_take_6 : decode cX1_take 6 = .ok (.aload_n 0, 1) := by decide +kernel
theorem dX1_take_7 : decode cX1_take 7 = .ok (.aload_n 1, 1) := by decide +kernel
theorem dX1_take_8 : decode cX1_take 8 = .ok (.invokevirtual 37, 3) := by decide +kernel
theorem dX1_take_11 : decode cX1_take 11 = .ok (.istore_n 3, 1) := by decide +kernel
theorem dX1_take_12 : decode cX1_take 12 = .ok (.aload_n 0, 1) := by decide +kernel
theorem dX1_take_13 : decode cX1_take 13 = .ok (.aload_n 1, 1) := by decide +kernel
theorem dX1_take_14 : decode cX1_take 14 = .ok (.invokevirtual 40, 3) := by decide +kernel
theorem dX1_take_17 : decode cX1_take 17 = .ok (.istore 4, 2) := by decide +kernel
theorem dX1_take_19 : decode cX1_take 19 = .ok (.iload_n 2, 1) := by decide +kernel
theorem dX1_take_20 : decode cX1_take 20 = .ok (.ifCond .ne 12, 3) := by decide +kernel
theorem dX1_take_23 : decode cX1_take 23 = .ok (.iload_n 3, 1) := by decide +kernel
theorem dX1_take_24 : decode cX1_take 24 = .ok (.ifCond .ne 8, 3) := by decide +kernel
theorem dX1_take_27 : decode cX1_take 27 = .ok (.iload 4, 2) := by decide +kernel
theorem dX1_take_29 : decode cX1_take 29 = .ok (.ifCond .eq 7, 3) := by decide +kernel
theorem dX1_take_32 : decode cX1_take 32 = .ok (.iconst 1, 1) := by decide +kernel
theorem dX1_take_33 : decode cX1_take 33 = .ok (.goto 4, 3) := by decide +kernel
theorem dX1_take_36 : decode cX1_take 36 = .ok (.iconst 0, 1) := by decide +kernel
theorem dX1_take_37 : decode cX1_take 37 = .ok (.ireturn, 1) := by decide +kernel
theorem dX1_takeDots_0 : decode cX1_takeDots 0 = .ok (.iconst 0, 1) := by decide +kernel
theorem dX1_takeDots_1 : decode cX1_takeDots 1 = .ok (.istore_n 2, 1) := by decide +kernel
theorem dX1_takeDots_2 : decode cX1_takeDots 2 = .ok (.iconst 0, 1) := by decide +kernel
theorem dX1_takeDots_3 : decode cX1_takeDots 3 = .ok (.istore_n 3, 1) := by decide +kernel
theorem dX1_takeDots_4 : decode cX1_takeDots 4 = .ok (.iload_n 3, 1) := by decide +kernel
theorem dX1_takeDots_5 : decode cX1_takeDots 5 = .ok (.iconst 4, 1) := by decide +kernel
theorem dX1_takeDots_6 : decode cX1_takeDots 6 = .ok (.if_icmp .ge 114, 3) := by decide +kernel
theorem dX1_takeDots_9 : decode cX1_takeDots 9 = .ok (.aload_n 0, 1) := by decide +kernel
theorem dX1_takeDots_10 : decode cX1_takeDots 10 = .ok (.getfield 15, 3) := by decide +kernel
theorem dX1_takeDots_13 : decode cX1_takeDots 13 = .ok (.iload_n 3, 1) := by decide +kernel
theorem dX1_takeDots_14 : decode cX1_takeDots 14 = .ok (.laload, 1) := by decide +kernel
theorem dX1_takeDots_15 : decode cX1_takeDots 15 = .ok (.aload_n 1, 1) := by decide +kernel
theorem dX1_takeDots_16 : decode cX1_takeDots 16 = .ok (.getfield 15, 3) := by decide +kernel
theorem dX1_takeDots_19 : decode cX1_takeDots 19 = .ok (.iload_n 3, 1) := by decide +kernel
theorem dX1_takeDots_20 : decode cX1_takeDots 20 = .ok (.laload, 1) := by decide +kernel
theorem dX1_takeDots_21 : decode cX1_takeDots 21 = .ok (.aload_n 1, 1) := by decide +kernel
theorem dX1_takeDots_22 : decode cX1_takeDots 22 = .ok (.getfield 9, 3) := by decide +kernel
theorem dX1_takeDots_25 : decode cX1_takeDots 25 = .ok (.iload_n 3, 1) := by decide +kernel
theorem dX1_takeDots_26 : decode cX1_takeDots 26 = .ok (.laload, 1) := by decide +kernel
theorem dX1_takeDots_27 : decode cX1_takeDots 27 = .ok (.ldc2_w 43, 3) := by decide +kernel
theorem dX1_takeDots_30 : decode cX1_takeDots 30 = .ok (.lxor, 1) := by decide +kernel
theorem dX1_takeDots_31 : decode cX1_takeDots 31 = .ok (.lor, 1) := by decide +kernel
theorem dX1_takeDots_32 : decode cX1_takeDots 32 = .ok (.land, 1) := by decide +kernel
theorem dX1_takeDots_33 : decode cX1_takeDots 33 = .ok (.lstore 4, 2) := by decide +kernel
theorem dX1_takeDots_35 : decode cX1_takeDots 35 = .ok (.lload 4, 2) := by decide +kernel
theorem dX1_takeDots_37 : decode cX1_takeDots 37 = .ok (.aload_n 1, 1) := by decide +kernel
theorem dX1_takeDots_38 : decode cX1_takeDots 38 = .ok (.getfield 15, 3) := by decide +kernel
theorem dX1_takeDots_41 : decode cX1_takeDots 41 = .ok (.iload_n 3, 1) := by decide +kernel
theorem dX1_takeDots_42 : decode cX1_takeDots 42 = .ok (.laload, 1) := by decide +kernel
theorem dX1_takeDots_43 : decode cX1_takeDots 43 = .ok (.aload_n 0, 1) := by decide +kernel
theorem dX1_takeDots_44 : decode cX1_takeDots 44 = .ok (.getfield 9, 3) := by decide +kernel
theorem dX1_takeDots_47 : decode cX1_takeDots 47 = .ok (.iload_n 3, 1) := by decide +kernel
theorem dX1_takeDots_48 : decode cX1_takeDots 48 = .ok (.laload, 1) := by decide +kernel
theorem dX1_takeDots_49 : decode cX1_takeDots 49 = .ok (.ldc2_w 43, 3) := by decide +kernel
theorem dX1_takeDots_52 : decode cX1_takeDots 52 = .ok (.lxor, 1) := by decide +kernel
theorem dX1_takeDots_53 : decode cX1_takeDots 53 = .ok (.land, 1) := by decide +kernel
theorem dX1_takeDots_54 : decode cX1_takeDots 54 = .ok (.lor, 1) := by decide +kernel
theorem dX1_takeDots_55 : decode cX1_takeDots 55 = .ok (.lstore 6, 2) := by decide +kernel
theorem dX1_takeDots_57 : decode cX1_takeDots 57 = .ok (.aload_n 0, 1) := by decide +kernel
theorem dX1_takeDots_58 : decode cX1_takeDots 58 = .ok (.getfield 9, 3) := by decide +kernel
theorem dX1_takeDots_61 : decode cX1_takeDots 61 = .ok (.iload_n 3, 1) := by decide +kernel
theorem dX1_takeDots_62 : decode cX1_takeDots 62 = .ok (.laload, 1) := by decide +kernel
theorem dX1_takeDots_63 : decode cX1_takeDots 63 = .ok (.aload_n 1, 1) := by decide +kernel
theorem dX1_takeDots_64 : decode cX1_takeDots 64 = .ok (.getfield 9, 3) := by decide +kernel
theorem dX1_takeDots_67 : decode cX1_takeDots 67 = .ok (.iload_n 3, 1) := by decide +kernel
theorem dX1_takeDots_68 : decode cX1_takeDots 68 = .ok (.laload, 1) := by decide +kernel
theorem dX1_takeDots_69 : decode cX1_takeDots 69 = .ok (.lor, 1) := by decide +kernel
theorem dX1_takeDots_70 : decode cX1_takeDots 70 = .ok (.lstore 8, 2) := by decide +kernel
theorem dX1_takeDots_72 : decode cX1_takeDots 72 = .ok (.lload 6, 2) := by decide +kernel
theorem dX1_takeDots_74 : decode cX1_takeDots 74 = .ok (.aload_n 0, 1) := by decide +kernel
theorem dX1_takeDots_75 : decode cX1_takeDots 75 = .ok (.getfield 15, 3) := by decide +kernel
theorem dX1_takeDots_78 : decode cX1_takeDots 78 = .ok (.iload_n 3, 1) := by decide +kernel
theorem dX1_takeDots_79 : decode cX1_takeDots 79 = .ok (.laload, 1) := by decide +kernel
theorem dX1_takeDots_80 : decode cX1_takeDots 80 = .ok (.lcmp, 1) := by decide +kernel
theorem dX1_takeDots_81 : decode cX1_takeDots 81 = .ok (.ifCond .ne 15, 3) := by decide +kernel
theorem dX1_takeDots_84 : decode cX1_takeDots 84 = .ok (.lload 8, 2) := by decide +kernel
theorem dX1_takeDots_86 : decode cX1_takeDots 86 = .ok (.aload_n 0, 1) := by decide +kernel
theorem dX1_takeDots_87 : decode cX1_takeDots 87 = .ok (.getfield 9, 3) := by decide +kernel
theorem dX1_takeDots_90 : decode cX1_takeDots 90 = .ok (.iload_n 3, 1) := by decide +kernel
theorem dX1_takeDots_91 : decode cX1_takeDots 91 = .ok (.laload, 1) := by decide +kernel
theorem dX1_takeDots_92 : decode cX1_takeDots 92 = .ok (.lcmp, 1) := by decide +kernel
theorem dX1_takeDots_93 : decode cX1_takeDots 93 = .ok (.ifCond .eq 5, 3) := by decide +kernel
theorem dX1_takeDots_96 : decode cX1_takeDots 96 = .ok (.iconst 1, 1) := by decide +kernel
theorem dX1_takeDots_97 : decode cX1_takeDots 97 = .ok (.istore_n 2, 1) := by decide +kernel
theorem dX1_takeDots_98 : decode cX1_takeDots 98 = .ok (.aload_n 0, 1) := by decide +kernel
theorem dX1_takeDots_99 : decode cX1_takeDots 99 = .ok (.getfield 15, 3) := by decide +kernel
theorem dX1_takeDots_102 : decode cX1_takeDots 102 = .ok (.iload_n 3, 1) := by decide +kernel
theorem dX1_takeDots_103 : decode cX1_takeDots 103 = .ok (.lload 6, 2) := by decide +kernel
theorem dX1_takeDots_105 : decode cX1_takeDots 105 = .ok (.lastore, 1) := by decide +kernel
theorem dX1_takeDots_106 : decode cX1_takeDots 106 = .ok (.aload_n 0, 1) := by decide +kernel
theorem dX1_takeDots_107 : decode cX1_takeDots 107 = .ok (.getfield 9, 3) := by decide +kernel
theorem dX1_takeDots_110 : decode cX1_takeDots 110 = .ok (.iload_n 3, 1) := by decide +kernel
theorem dX1_takeDots_111 : decode cX1_takeDots 111 = .ok (.lload 8, 2) := by decide +kernel
theorem dX1_takeDots_113 : decode cX1_takeDots 113 = .ok (.lastore, 1) := by decide +kernel
theorem dX1_takeDots_114 : decode cX1_takeDots 114 = .ok (.iinc 3 1, 3) := by decide +kernel
theorem dX1_takeDots_117 : decode cX1_takeDots 117 = .ok (.goto (-113), 3) := by decide +kernel
theorem dX1_takeDots_120 : decode cX1_takeDots 120 = .ok (.iload_n 2, 1) := by decide +kernel
theorem dX1_takeDots_121 : decode cX1_takeDots 121 = .ok (.ireturn, 1) := by decide +kernel
theorem dX1_takeTwice_0 : decode cX1_takeTwice 0 = .ok (.aload_n 0, 1) := by decide +kernel
theorem dX1_takeTwice_1 : decode cX1_takeTwice 1 = .ok (.getfield 22, 3) := by decide +kernel
theorem dX1_takeTwice_4 : decode cX1_takeTwice 4 = .ok (.aload_n 1, 1) := by decide +kernel
theorem dX1_takeTwice_5 : decode cX1_takeTwice 5 = .ok (.getfield 22, 3) := by decide +kernel
theorem dX1_takeTwice_8 : decode cX1_takeTwice 8 = .ok (.ior, 1) := by decide +kernel
theorem dX1_takeTwice_9 : decode cX1_takeTwice 9 = .ok (.istore_n 2, 1) := by decide +kernel
theorem dX1_takeTwice_10 : decode cX1_takeTwice 10 = .ok (.aload_n 0, 1) := by decide +kernel
theorem dX1_takeTwice_11 : decode cX1_takeTwice 11 = .ok (.getfield 26, 3) := by decide +kernel
theorem dX1_takeTwice_14 : decode cX1_takeTwice 14 = .ok (.aload_n 1, 1) := by decide +kernel
theorem dX1_takeTwice_15 : decode cX1_takeTwice 15 = .ok (.getfield 26, 3) := by decide +kernel
theorem dX1_takeTwice_18 : decode cX1_takeTwice 18 = .ok (.ior, 1) := by decide +kernel
theorem dX1_takeTwice_19 : decode cX1_takeTwice 19 = .ok (.istore_n 3, 1) := by decide +kernel
theorem dX1_takeTwice_20 : decode cX1_takeTwice 20 = .ok (.iload_n 2, 1) := by decide +kernel
theorem dX1_takeTwice_21 : decode cX1_takeTwice 21 = .ok (.aload_n 0, 1) := by decide +kernel
theorem dX1_takeTwice_22 : decode cX1_takeTwice 22 = .ok (.getfield 22, 3) := by decide +kernel
theorem dX1_takeTwice_25 : decode cX1_takeTwice 25 = .ok (.if_icmp .ne 11, 3) := by decide +kernel
theorem dX1_takeTwice_28 : decode cX1_takeTwice 28 = .ok (.iload_n 3, 1) := by decide +kernel
theorem dX1_takeTwice_29 : decode cX1_takeTwice 29 = .ok (.aload_n 0, 1) := by decide +kernel
theorem dX1_takeTwice_30 : decode cX1_takeTwice 30 = .ok (.getfield 26, 3) := by decide +kernel
theorem dX1_takeTwice_33 : decode cX1_takeTwice 33 = .ok (.if_icmp .eq 7, 3) := by decide +kernel
theorem dX1_takeTwice_36 : decode cX1_takeTwice 36 = .ok (.iconst 1, 1) := by decide +kernel
theorem dX1_takeTwice_37 : decode cX1_takeTwice 37 = .ok (.goto 4, 3) := by decide +kernel
theorem dX1_takeTwice_40 : decode cX1_takeTwice 40 = .ok (.iconst 0, 1) := by decide +kernel
theorem dX1_takeTwice_41 : decode cX1_takeTwice 41 = .ok (.istore 4, 2) := by decide +kernel
theorem dX1_takeTwice_43 : decode cX1_takeTwice 43 = .ok (.aload_n 0, 1) := by decide +kernel
theorem dX1_takeTwice_44 : decode cX1_takeTwice 44 = .ok (.iload_n 2, 1) := by decide +kernel
theorem dX1_takeTwice_45 : decode cX1_takeTwice 45 = .ok (.putfield 22, 3) := by decide +kernel
theorem dX1_takeTwice_48 : decode cX1_takeTwice 48 = .ok (.aload_n 0, 1) := by decide +kernel
theorem dX1_takeTwice_49 : decode cX1_takeTwice 49 = .ok (.iload_n 3, 1) := by decide +kernel
theorem dX1_takeTwice_50 : decode cX1_takeTwice 50 = .ok (.putfield 26, 3) := by decide +kernel
theorem dX1_takeTwice_53 : decode cX1_takeTwice 53 = .ok (.iload 4, 2) := by decide +kernel
theorem dX1_takeTwice_55 : decode cX1_takeTwice 55 = .ok (.ireturn, 1) := by decide +kernel
theorem dX1_takeTimed_0 : decode cX1_takeTimed 0 = .ok (.iconst 0, 1) := by decide +kernel
theorem dX1_takeTimed_1 : decode cX1_takeTimed 1 = .ok (.istore_n 2, 1) := by decide +kernel
theorem dX1_takeTimed_2 : decode cX1_takeTimed 2 = .ok (.iconst 0, 1) := by decide +kernel
theorem dX1_takeTimed_3 : decode cX1_takeTimed 3 = .ok (.istore_n 3, 1) := by decide +kernel
theorem dX1_takeTimed_4 : decode cX1_takeTimed 4 = .ok (.iload_n 3, 1) := by decide +kernel
theorem dX1_takeTimed_5 : decode cX1_takeTimed 5 = .ok (.bipush 32, 2) := by decide +kernel
theorem dX1_takeTimed_7 : decode cX1_takeTimed 7 = .ok (.if_icmp .ge 38, 3) := by decide +kernel
theorem dX1_takeTimed_10 : decode cX1_takeTimed 10 = .ok (.aload_n 1, 1) := by decide +kernel
theorem dX1_takeTimed_11 : decode cX1_takeTimed 11 = .ok (.getfield 18, 3) := by decide +kernel
theorem dX1_takeTimed_14 : decode cX1_takeTimed 14 = .ok (.iload_n 3, 1) := by decide +kernel
theorem dX1_takeTimed_15 : decode cX1_takeTimed 15 = .ok (.iaload, 1) := by decide +kernel
theorem dX1_takeTimed_16 : decode cX1_takeTimed 16 = .ok (.aload_n 0, 1) := by decide +kernel
theorem dX1_takeTimed_17 : decode cX1_takeTimed 17 = .ok (.getfield 18, 3) := by decide +kernel
theorem dX1_takeTimed_20 : decode cX1_takeTimed 20 = .ok (.iload_n 3, 1) := by decide +kernel
theorem dX1_takeTimed_21 : decode cX1_takeTimed 21 = .ok (.iaload, 1) := by decide +kernel
theorem dX1_takeTimed_22 : decode cX1_takeTimed 22 = .ok (.if_icmp .le 17, 3) := by decide +kernel
theorem dX1_takeTimed_25 : decode cX1_takeTimed 25 = .ok (.aload_n 0, 1) := by decide +kernel
theorem dX1_takeTimed_26 : decode cX1_takeTimed 26 = .ok (.getfield 18, 3) := by decide +kernel
theorem dX1_takeTimed_29 : decode cX1_takeTimed 29 = .ok (.iload_n 3, 1) := by decide +kernel
theorem dX1_takeTimed_30 : decode cX1_takeTimed 30 = .ok (.aload_n 1, 1) := by decide +kernel
theorem dX1_takeTimed_31 : decode cX1_takeTimed 31 = .ok (.getfield 18, 3) := by decide +kernel
theorem dX1_takeTimed_34 : decode cX1_takeTimed 34 = .ok (.iload_n 3, 1) := by decide +kernel
theorem dX1_takeTimed_35 : decode cX1_takeTimed 35 = .ok (.iaload, 1) := by decide +kernel
theorem dX1_takeTimed_36 : decode cX1_takeTimed 36 = .ok (.iastore, 1) := by decide +kernel
theorem dX1_takeTimed_37 : decode cX1_takeTimed 37 = .ok (.iconst 1, 1) := by decide +kernel
theorem dX1_takeTimed_38 : decode cX1_takeTimed 38 = .ok (.istore_n 2, 1) := by decide +kernel
theorem dX1_takeTimed_39 : decode cX1_takeTimed 39 = .ok (.iinc 3 1, 3) := by decide +kernel
theorem dX1_takeTimed_42 : decode cX1_takeTimed 42 = .ok (.goto (-38), 3) := by decide +kernel
theorem dX1_takeTimed_45 : decode cX1_takeTimed 45 = .ok (.iload_n 2, 1) := by decide +kernel
theorem dX1_takeTimed_46 : decode cX1_takeTimed 46 = .ok (.ireturn, 1) := by decide +kernel
theorem dX1_become_0 : decode cX1_become 0 = .ok (.aload_n 1, 1) := by decide +kernel
theorem dX1_become_1 : decode cX1_become 1 = .ok (.getfield 9, 3) := by decide +kernel
theorem dX1_become_4 : decode cX1_become 4 = .ok (.iconst 0, 1) := by decide +kernel
theorem dX1_become_5 : decode cX1_become 5 = .ok (.aload_n 0, 1) := by decide +kernel
theorem dX1_become_6 : decode cX1_become 6 = .ok (.getfield 9, 3) := by decide +kernel
theorem dX1_become_9 : decode cX1_become 9 = .ok (.iconst 0, 1) := by decide +kernel
theorem dX1_become_10 : decode cX1_become 10 = .ok (.iconst 4, 1) := by decide +kernel
theorem dX1_become_11 : decode cX1_become 11 = .ok (.invokestatic 45, 3) := by decide +kernel
theorem dX1_become_14 : decode cX1_become 14 = .ok (.aload_n 1, 1) := by decide +kernel
theorem dX1_become_15 : decode cX1_become 15 = .ok (.getfield 15, 3) := by decide +kernel
theorem dX1_become_18 : decode cX1_become 18 = .ok (.iconst 0, 1) := by decide +kernel
theorem dX1_become_19 : decode cX1_become 19 = .ok (.aload_n 0, 1) := by decide +kernel
theorem dX1_become_20 : decode cX1_become 20 = .ok (.getfield 15, 3) := by decide +kernel
theorem dX1_become_23 : decode cX1_become 23 = .ok (.iconst 0, 1) := by decide +kernel
theorem dX1_become_24 : decode cX1_become 24 = .ok (.iconst 4, 1) := by decide +kernel
theorem dX1_become_25 : decode cX1_become 25 = .ok (.invokestatic 45, 3) := by decide +kernel
theorem dX1_become_28 : decode cX1_become 28 = .ok (.aload_n 1, 1) := by decide +kernel
theorem dX1_become_29 : decode cX1_become 29 = .ok (.getfield 18, 3) := by decide +kernel
theorem dX1_become_32 : decode cX1_become 32 = .ok (.iconst 0, 1) := by decide +kernel
theorem dX1_become_33 : decode cX1_become 33 = .ok (.aload_n 0, 1) := by decide +kernel
theorem dX1_become_34 : decode cX1_become 34 = .ok (.getfield 18, 3) := by decide +kernel
theorem dX1_become_37 : decode cX1_become 37 = .ok (.iconst 0, 1) := by decide +kernel
theorem dX1_become_38 : decode cX1_become 38 = .ok (.bipush 32, 2) := by decide +kernel
theorem dX1_become_40 : decode cX1_become 40 = .ok (.invokestatic 45, 3) := by decide +kernel
theorem dX1_become_43 : decode cX1_become 43 = .ok (.aload_n 0, 1) := by decide +kernel
theorem dX1_become_44 : decode cX1_become 44 = .ok (.aload_n 1, 1) := by decide +kernel
theorem dX1_become_45 : decode cX1_become 45 = .ok (.getfield 22, 3) := by decide +kernel
theorem dX1_become_48 : decode cX1_become 48 = .ok (.putfield 22, 3) := by decide +kernel
theorem dX1_become_51 : decode cX1_become 51 = .ok (.aload_n 0, 1) := by decide +kernel
theorem dX1_become_52 : decode cX1_become 52 = .ok (.aload_n 1, 1) := by decide +kernel
theorem dX1_become_53 : decode cX1_become 53 = .ok (.getfield 26, 3) := by decide +kernel
theorem dX1_become_56 : decode cX1_become 56 = .ok (.putfield 26, 3) := by decide +kernel
theorem dX1_become_59 : decode cX1_become 59 = .ok (.return_, 1) := by decide +kernel
theorem dX1_isLike_0 : decode cX1_isLike 0 = .ok (.aload_n 0, 1) := by decide +kernel
theorem dX1_isLike_1 : decode cX1_isLike 1 = .ok (.getfield 22, 3) := by decide +kernel
theorem dX1_isLike_4 : decode cX1_isLike 4 = .ok (.aload_n 1, 1) := by decide +kernel
theorem dX1_isLike_5 : decode cX1_isLike 5 = .ok (.getfield 22, 3) := by decide +kernel
theorem dX1_isLike_8 : decode cX1_isLike 8 = .ok (.if_icmp .ne 18, 3) := by decide +kernel
theorem dX1_isLike_11 : decode cX1_isLike 11 = .ok (.aload_n 0, 1) := by decide +kernel
theorem dX1_isLike_12 : decode cX1_isLike 12 = .ok (.getfield 26, 3) := by decide +kernel
theorem dX1_isLike_15 : decode cX1_isLike 15 = .ok (.aload_n 1, 1) := by decide +kernel
theorem dX1_isLike_16 : decode cX1_isLike 16 = .ok (.getfield 26, 3) := by decide +kernel
theorem dX1_isLike_19 : decode cX1_isLike 19 = .ok (.if_icmp .ne 7, 3) := by decide +kernel
theorem dX1_isLike_22 : decode cX1_isLike 22 = .ok (.iconst 1, 1) := by decide +kernel
theorem dX1_isLike_23 : decode cX1_isLike 23 = .ok (.goto 4, 3) := by decide +kernel
theorem dX1_isLike_26 : decode cX1_isLike 26 = .ok (.iconst 0, 1) := by decide +kernel
theorem dX1_isLike_27 : decode cX1_isLike 27 = .ok (.istore_n 2, 1) := by decide +kernel
theorem dX1_isLike_28 : decode cX1_isLike 28 = .ok (.iconst 0, 1) := by decide +kernel
theorem dX1_isLike_29 : decode cX1_isLike 29 = .ok (.istore_n 3, 1) := by decide +kernel
theorem dX1_isLike_30 : decode cX1_isLike 30 = .ok (.iload_n 3, 1) := by decide +kernel
theorem dX1_isLike_31 : decode cX1_isLike 31 = .ok (.iconst 4, 1) := by decide +kernel
theorem dX1_isLike_32 : decode cX1_isLike 32 = .ok (.if_icmp .ge 51, 3) := by decide +kernel
theorem dX1_isLike_35 : decode cX1_isLike 35 = .ok (.iload_n 2, 1) := by decide +kernel
theorem dX1_isLike_36 : decode cX1_isLike 36 = .ok (.ifCond .eq 39, 3) := by decide +kernel
theorem dX1_isLike_39 : decode cX1_isLike 39 = .ok (.aload_n 0, 1) := by decide +kernel
theorem dX1_isLike_40 : decode cX1_isLike 40 = .ok (.getfield 9, 3) := by decide +kernel
theorem dX1_isLike_43 : decode cX1_isLike 43 = .ok (.iload_n 3, 1) := by decide +kernel
theorem dX1_isLike_44 : decode cX1_isLike 44 = .ok (.laload, 1) := by decide +kernel
theorem dX1_isLike_45 : decode cX1_isLike 45 = .ok (.aload_n 1, 1) := by decide +kernel
theorem dX1_isLike_46 : decode cX1_isLike 46 = .ok (.getfield 9, 3) := by decide +kernel
theorem dX1_isLike_49 : decode cX1_isLike 49 = .ok (.iload_n 3, 1) := by decide +kernel
theorem dX1_isLike_50 : decode cX1_isLike 50 = .ok (.laload, 1) := by decide +kernel
theorem dX1_isLike_51 : decode cX1_isLike 51 = .ok (.lcmp, 1) := by decide +kernel
theorem dX1_isLike_52 : decode cX1_isLike 52 = .ok (.ifCond .ne 23, 3) := by decide +kernel
theorem dX1_isLike_55 : decode cX1_isLike 55 = .ok (.aload_n 0, 1) := by decide +kernel
theorem dX1_isLike_56 : decode cX1_isLike 56 = .ok (.getfield 15, 3) := by decide +kernel
theorem dX1_isLike_59 : decode cX1_isLike 59 = .ok (.iload_n 3, 1) := by decide +kernel
theorem dX1_isLike_60 : decode cX1_isLike 60 = .ok (.laload, 1) := by decide +kernel
theorem dX1_isLike_61 : decode cX1_isLike 61 = .ok (.aload_n 1, 1) := by decide +kernel
theorem dX1_isLike_62 : decode cX1_isLike 62 = .ok (.getfield 15, 3) := by decide +kernel
theorem dX1_isLike_65 : decode cX1_isLike 65 = .ok (.iload_n 3, 1) := by decide +kernel
theorem dX1_isLike_66 : decode cX1_isLike 66 = .ok (.laload, 1) := by decide +kernel
theorem dX1_isLike_67 : decode cX1_isLike 67 = .ok (.lcmp, 1) := by decide +kernel
theorem dX1_isLike_68 : decode cX1_isLike 68 = .ok (.ifCond .ne 7, 3) := by decide +kernel
theorem dX1_isLike_71 : decode cX1_isLike 71 = .ok (.iconst 1, 1) := by decide +kernel
theorem dX1_isLike_72 : decode cX1_isLike 72 = .ok (.goto 4, 3) := by decide +kernel
theorem dX1_isLike_75 : decode cX1_isLike 75 = .ok (.iconst 0, 1) := by decide +kernel
theorem dX1_isLike_76 : decode cX1_isLike 76 = .ok (.istore_n 2, 1) := by decide +kernel
theorem dX1_isLike_77 : decode cX1_isLike 77 = .ok (.iinc 3 1, 3) := by decide +kernel
theorem dX1_isLike_80 : decode cX1_isLike 80 = .ok (.goto (-50), 3) := by decide +kernel
theorem dX1_isLike_83 : decode cX1_isLike 83 = .ok (.iconst 0, 1) := by decide +kernel
theorem dX1_isLike_84 : decode cX1_isLike 84 = .ok (.istore_n 3, 1) := by decide +kernel
theorem dX1_isLike_85 : decode cX1_isLike 85 = .ok (.iload_n 3, 1) := by decide +kernel
theorem dX1_isLike_86 : decode cX1_isLike 86 = .ok (.bipush 32, 2) := by decide +kernel
theorem dX1_isLike_88 : decode cX1_isLike 88 = .ok (.if_icmp .ge 34, 3) := by decide +kernel
theorem dX1_isLike_91 : decode cX1_isLike 91 = .ok (.iload_n 2, 1) := by decide +kernel
theorem dX1_isLike_92 : decode cX1_isLike 92 = .ok (.ifCond .eq 22, 3) := by decide +kernel
theorem dX1_isLike_95 : decode cX1_isLike 95 = .ok (.aload_n 0, 1) := by decide +kernel
theorem dX1_isLike_96 : decode cX1_isLike 96 = .ok (.getfield 18, 3) := by decide +kernel
theorem dX1_isLike_99 : decode cX1_isLike 99 = .ok (.iload_n 3, 1) := by decide +kernel
theorem dX1_isLike_100 : decode cX1_isLike 100 = .ok (.iaload, 1) := by decide +kernel
theorem dX1_isLike_101 : decode cX1_isLike 101 = .ok (.aload_n 1, 1) := by decide +kernel
theorem dX1_isLike_102 : decode cX1_isLike 102 = .ok (.getfield 18, 3) := by decide +kernel
theorem dX1_isLike_105 : decode cX1_isLike 105 = .ok (.iload_n 3, 1) := by decide +kernel
theorem dX1_isLike_106 : decode cX1_isLike 106 = .ok (.iaload, 1) := by decide +kernel
theorem dX1_isLike_107 : decode cX1_isLike 107 = .ok (.if_icmp .ne 7, 3) := by decide +kernel
theorem dX1_isLike_110 : decode cX1_isLike 110 = .ok (.iconst 1, 1) := by decide +kernel
theorem dX1_isLike_111 : decode cX1_isLike 111 = .ok (.goto 4, 3) := by decide +kernel
theorem dX1_isLike_114 : decode cX1_isLike 114 = .ok (.iconst 0, 1) := by decide +kernel
theorem dX1_isLike_115 : decode cX1_isLike 115 = .ok (.istore_n 2, 1) := by decide +kernel
theorem dX1_isLike_116 : decode cX1_isLike 116 = .ok (.iinc 3 1, 3) := by decide +kernel
theorem dX1_isLike_119 : decode cX1_isLike 119 = .ok (.goto (-34), 3) := by decide +kernel
theorem dX1_isLike_122 : decode cX1_isLike 122 = .ok (.iload_n 2, 1) := by decide +kernel
theorem dX1_isLike_123 : decode cX1_isLike 123 = .ok (.ireturn, 1) := by decide +kernel
set_option maxRecDepth 20000 in
theorem ggX2_init_X0_init : GoodIn wsX2_init wsX0_init := goodIn_r _ [18, 19, 2, 3, 20, 21, 22, 23, 24, 14, 25, 26, 27, 42, 43, 44, 45, 46, 47, 48] (by decide +kernel) (by decide +kernel)
set_option maxRecDepth 20000 in
theorem gX2_init_X0_init_n20 : GoodIn wsX2_init (wsX0_init) := ggX2_init_X0_init
set_option maxRecDepth 20000 in
theorem ggX2_init_X1_init : GoodIn wsX2_init wsX1_init := goodIn_r _ [29, 30, 2, 3, 14, 31, 32, 20, 33, 34, 35, 49, 50, 51, 52, 53] (by decide +kernel) (by decide +kernel)
set_option maxRecDepth 20000 in
theorem gX2_init_X1_init_n25 : GoodIn wsX2_init (wsX1_init) := ggX2_init_X1_init
theorem dX2_init_0 : decode cX2_init 0 = .ok (.aload_n 0, 1) := by decide +kernel
theorem dX2_init_1 : decode cX2_init 1 = .ok (.invokespecial 3, 3) := by decide +kernel
theorem dX2_init_4 : decode cX2_init 4 = .ok (.aload_n 0, 1) := by decide +kernel
theorem dX2_init_5 : decode cX2_init 5 = .ok (.bipush 6, 2) := by decide +kernel
theorem dX2_init_7 : decode cX2_init 7 = .ok (.anewarray 9, 3) := by decide +kernel
theorem dX2_init_10 : decode cX2_init 10 = .ok (.putfield 11, 3) := by decide +kernel
theorem dX2_init_13 : decode cX2_init 13 = .ok (.aload_n 0, 1) := by decide +kernel
theorem dX2_init_14 : decode cX2_init 14 = .ok (.sipush 250, 3) := by decide +kernel
theorem dX2_init_17 : decode cX2_init 17 = .ok (.anewarray 9, 3) := by decide +kernel
theorem dX2_init_20 : decode cX2_init 20 = .ok (.putfield 15, 3) := by decide +kernel
theorem dX2_init_23 : decode cX2_init 23 = .ok (.aload_n 0, 1) := by decide +kernel
theorem dX2_init_24 : decode cX2_init 24 = .ok (.new 18, 3) := by decide +kernel
theorem dX2_init_27 : decode cX2_init 27 = .ok (.dup, 1) := by decide +kernel
theorem dX2_init_28 : decode cX2_init 28 = .ok (.invokespecial 20, 3) := by decide +kernel
theorem dX2_init_31 : decode cX2_init 31 = .ok (.putfield 21, 3) := by decide +kernel
theorem dX2_init_34 : decode cX2_init 34 = .ok (.aload_n 0, 1) := by decide +kernel
theorem dX2_init_35 : decode cX2_init 35 = .ok (.new 9, 3) := by decide +kernel
theorem dX2_init_38 : decode cX2_init 38 = .ok (.dup, 1) := by decide +kernel
theorem dX2_init_39 : decode cX2_init 39 = .ok (.invokespecial 25, 3) := by decide +kernel
theorem dX2_init_42 : decode cX2_init 42 = .ok (.putfield 26, 3) := by decide +kernel
theorem dX2_init_45 : decode cX2_init 45 = .ok (.aload_n 0, 1) := by decide +kernel
theorem dX2_init_46 : decode cX2_init 46 = .ok (.sipush 250, 3) := by decide +kernel
theorem dX2_init_49 : decode cX2_init 49 = .ok (.newarray .long, 2) := by decide +kernel
theorem dX2_init_51 : decode cX2_init 51 = .ok (.putfield 30, 3) := by decide +kernel
theorem dX2_init_54 : decode cX2_init 54 = .ok (.aload_n 0, 1) := by decide +kernel
theorem dX2_init_55 : decode cX2_init 55 = .ok (.iconst 0, 1) := by decide +kernel
theorem dX2_init_56 : decode cX2_init 56 = .ok (.putfield 34, 3) := by decide +kernel
theorem dX2_init_59 : decode cX2_init 59 = .ok (.iconst 0, 1) := by decide +kernel
theorem dX2_init_60 : decode cX2_init 60 = .ok (.istore_n 1, 1) := by decide +kernel
theorem dX2_init_61 : decode cX2_init 61 = .ok (.iload_n 1, 1) := by decide +kernel
theorem dX2_init_62 : decode cX2_init 62 = .ok (.bipush 6, 2) := by decide +kernel
theorem dX2_init_64 : decode cX2_init 64 = .ok (.if_icmp .ge 22, 3) := by decide +kernel
theorem dX2_init_67 : decode cX2_init 67 = .ok (.aload_n 0, 1) := by decide +kernel
theorem dX2_init_68 : decode cX2_init 68 = .ok (.getfield 11, 3) := by decide +kernel
theorem dX2_init_71 : decode cX2_init 71 = .ok (.iload_n 1, 1) := by decide +kernel
theorem dX2_init_72 : decode cX2_init 72 = .ok (.new 9, 3) := by decide +kernel
theorem dX2_init_75 : decode cX2_init 75 = .ok (.dup, 1) := by decide +kernel
theorem dX2_init_76 : decode cX2_init 76 = .ok (.invokespecial 25, 3) := by decide +kernel
theorem dX2_init_79 : decode cX2_init 79 = .ok (.aastore, 1) := by decide +kernel
theorem dX2_init_80 : decode cX2_init 80 = .ok (.iinc 1 1, 3) := by decide +kernel
theorem dX2_init_83 : decode cX2_init 83 = .ok (.goto (-22), 3) := by decide +kernel
theorem dX2_init_86 : decode cX2_init 86 = .ok (.return_, 1) := by decide +kernel
set_option maxRecDepth 20000 in
theorem ggX2_element_X2_replicaAt : GoodIn wsX2_element wsX2_replicaAt := goodIn_ca (goodIn_r _ [5, 6, 7, 8, 109, 110, 111, 112, 113, 114] (by decide +kernel) (by decide +kernel)) (goodIn_sub (fun _ h => List.mem_cons_of_mem _ (List.mem_append_left _ (List.mem_append_left _ (List.mem_append_right _ h)))) (by decide +kernel))
set_option maxRecDepth 20000 in
theorem gX2_element_X2_replicaAt : GoodIn wsX2_element (wsV RX2 38 RX2 yX2_replicaAt wsX2_replicaAt) := goodIn_app (goodIn_of _ (by decide +kernel)) ggX2_element_X2_replicaAt
set_option maxRecDepth 20000 in
theorem ggX2_element_X2_requireIndex : GoodIn wsX2_element wsX2_requireIndex := goodIn_ca (goodIn_r _ [11, 6, 7] (by decide +kernel) (by decide +kernel)) (goodIn_sub (fun _ h => List.mem_cons_of_mem _ (List.mem_append_left _ (List.mem_append_left _ (List.mem_append_right _ h)))) (by decide +kernel))
set_option maxRecDepth 20000 in
theorem gX2_element_X2_requireIndex : GoodIn wsX2_element (va_wsS RX2 42 yX2_requireIndex wsX2_requireIndex) := goodIn_app (goodIn_of _ (by decide +kernel)) ggX2_element_X2_requireIndex
set_option maxRecDepth 20000 in
theorem ggX2_element_X2_requireKind : GoodIn wsX2_element wsX2_requireKind := goodIn_ca (goodIn_r _ [14, 15, 16] (by decide +kernel) (by decide +kernel)) (goodIn_sub (fun _ h => List.mem_cons_of_mem _ (List.mem_append_left _ (List.mem_append_right _ h))) (by decide +kernel))
set_option maxRecDepth 20000 in
theorem gX2_element_X2_requireKind : GoodIn wsX2_element (va_wsS RX2 46 yX2_requireKind wsX2_requireKind) := goodIn_app (goodIn_of _ (by decide +kernel)) ggX2_element_X2_requireKind
set_option maxRecDepth 20000 in
theorem ggX2_element_X2_turn : GoodIn wsX2_element wsX2_turn := goodIn_ca (goodIn_r _ [20, 21, 22, 23, 24, 4, 25, 26, 27, 28, 29, 30, 31, 32, 33, 34, 35, 36, 37, 38, 39, 40, 41, 42, 43, 44, 45, 46, 47, 48, 49, 50, 51, 52, 53, 54, 55, 56, 57, 58, 59, 60, 61, 62, 63, 64, 65, 66, 67, 68, 69, 70, 71, 72, 73, 74, 75, 76, 77, 78, 79, 80, 81, 82, 83, 84, 85, 86, 87, 88, 89, 90, 91, 92, 93, 94, 95, 96, 97, 98, 99, 100, 101, 102, 103, 104, 105, 106, 107, 108, 109, 110, 111, 112, 113, 114, 115, 116, 117, 118, 119, 120, 121, 122, 123, 124, 125, 126] (by decide +kernel) (by decide +kernel)) (goodIn_sub (fun _ h => List.mem_cons_of_mem _ (List.mem_append_right _ h)) (by decide +kernel))
set_option maxRecDepth 20000 in
theorem gX2_element_X2_turn : GoodIn wsX2_element (wsV RX2 49 RX2 yX2_turn wsX2_turn) := goodIn_app (goodIn_of _ (by decide +kernel)) ggX2_element_X2_turn
theorem dX2_element_0 : decode cX2_element 0 = .ok (.aload_n 0, 1) := by decide +kernel
theorem dX2_element_1 : decode cX2_element 1 = .ok (.iload_n 1, 1) := by decide +kernel
theorem dX2_element_2 : decode cX2_element 2 = .ok (.invokevirtual 38, 3) := by decide +kernel
theorem dX2_element_5 : decode cX2_element 5 = .ok (.astore 5, 2) := by decide +kernel
theorem dX2_element_7 : decode cX2_element 7 = .ok (.iload_n 2, 1) := by decide +kernel
theorem dX2_element_8 : decode cX2_element 8 = .ok (.bipush 16, 2) := by decide +kernel
theorem dX2_element_10 : decode cX2_element 10 = .ok (.invokestatic 42, 3) := by decide +kernel
theorem dX2_element_13 : decode cX2_element 13 = .ok (.iload_n 3, 1) := by decide +kernel
theorem dX2_element_14 : decode cX2_element 14 = .ok (.bipush 32, 2) := by decide +kernel
theorem dX2_element_16 : decode cX2_element 16 = .ok (.invokestatic 42, 3) := by decide +kernel
theorem dX2_element_19 : decode cX2_element 19 = .ok (.iload_n 2, 1) := by decide +kernel
theorem dX2_element_20 : decode cX2_element 20 = .ok (.iconst 0, 1) := by decide +kernel
theorem dX2_element_21 : decode cX2_element 21 = .ok (.invokestatic 46, 3) := by decide +kernel
theorem dX2_element_24 : decode cX2_element 24 = .ok (.aload_n 0, 1) := by decide +kernel
theorem dX2_element_25 : decode cX2_element 25 = .ok (.aload 5, 2) := by decide +kernel
theorem dX2_element_27 : decode cX2_element 27 = .ok (.iload_n 1, 1) := by decide +kernel
theorem dX2_element_28 : decode cX2_element 28 = .ok (.iload_n 2, 1) := by decide +kernel
theorem dX2_element_29 : decode cX2_element 29 = .ok (.iload_n 3, 1) := by decide +kernel
theorem dX2_element_30 : decode cX2_element 30 = .ok (.iload 4, 2) := by decide +kernel
theorem dX2_element_32 : decode cX2_element 32 = .ok (.invokevirtual 49, 3) := by decide +kernel
theorem dX2_element_35 : decode cX2_element 35 = .ok (.ireturn, 1) := by decide +kernel
set_option maxRecDepth 20000 in
theorem ggX2_write_X2_replicaAt : GoodIn wsX2_write wsX2_replicaAt := goodIn_ca (goodIn_r _ [6, 7, 8, 9, 105, 106, 107, 108, 109, 110] (by decide +kernel) (by decide +kernel)) (goodIn_sub (fun _ h => List.mem_cons_of_mem _ (List.mem_append_left _ (List.mem_append_left _ (List.mem_append_right _ h)))) (by decide +kernel))
set_option maxRecDepth 20000 in
theorem gX2_write_X2_replicaAt : GoodIn wsX2_write (wsV RX2 38 RX2 yX2_replicaAt wsX2_replicaAt) := goodIn_app (goodIn_of _ (by decide +kernel)) ggX2_write_X2_replicaAt
set_option maxRecDepth 20000 in
theorem ggX2_write_X2_requireIndex : GoodIn wsX2_write wsX2_requireIndex := goodIn_ca (goodIn_r _ [12, 7, 8] (by decide +kernel) (by decide +kernel)) (goodIn_sub (fun _ h => List.mem_cons_of_mem _ (List.mem_append_left _ (List.mem_append_left _ (List.mem_append_right _ h)))) (by decide +kernel))
set_option maxRecDepth 20000 in
theorem gX2_write_X2_requireIndex : GoodIn wsX2_write (va_wsS RX2 42 yX2_requireIndex wsX2_requireIndex) := goodIn_app (goodIn_of _ (by decide +kernel)) ggX2_write_X2_requireIndex
set_option maxRecDepth 20000 in
theorem ggX2_write_X2_requireKind : GoodIn wsX2_write wsX2_requireKind := goodIn_ca (goodIn_r _ [15, 16, 17] (by decide +kernel) (by decide +kernel)) (goodIn_sub (fun _ h => List.mem_cons_of_mem _ (List.mem_append_left _ (List.mem_append_right _ h))) (by decide +kernel))
set_option maxRecDepth 20000 in
theorem gX2_write_X2_requireKind : GoodIn wsX2_write (va_wsS RX2 46 yX2_requireKind wsX2_requireKind) := goodIn_app (goodIn_of _ (by decide +kernel)) ggX2_write_X2_requireKind
set_option maxRecDepth 20000 in
theorem ggX2_write_X2_requireDot : GoodIn wsX2_write wsX2_requireDot := goodIn_ca (goodIn_r _ [21, 22, 23, 1, 24, 25, 26, 27, 28, 29, 30, 105, 106, 107, 108, 109, 110, 111, 112, 113, 114, 115, 116, 117] (by decide +kernel) (by decide +kernel)) (goodIn_sub (fun _ h => List.mem_cons_of_mem _ (List.mem_append_right _ h)) (by decide +kernel))
set_option maxRecDepth 20000 in
theorem gX2_write_X2_requireDot : GoodIn wsX2_write (wsV RX2 53 RX2 yX2_requireDot wsX2_requireDot) := goodIn_app (goodIn_of _ (by decide +kernel)) ggX2_write_X2_requireDot
set_option maxRecDepth 20000 in
theorem ggX2_write_X2_openDelta : GoodIn wsX2_write wsX2_openDelta := goodIn_ca (goodIn_r _ [34, 22, 23, 35, 36, 37, 38, 39, 40, 41, 42, 43, 44, 45, 46, 47, 48, 49, 50, 51, 105, 106, 107, 108, 109, 110, 118, 119, 120, 121, 122] (by decide +kernel) (by decide +kernel)) (goodIn_sub (fun _ h => List.mem_cons_of_mem _ (List.mem_append_right _ h)) (by decide +kernel))
set_option maxRecDepth 20000 in
theorem gX2_write_X2_openDelta : GoodIn wsX2_write (wsV RX2 57 RX2 yX2_openDelta wsX2_openDelta) := goodIn_app (goodIn_of _ (by decide +kernel)) ggX2_write_X2_openDelta
set_option maxRecDepth 20000 in
theorem ggX2_write_X2_takeBack : GoodIn wsX2_write wsX2_takeBack := goodIn_r _ [55, 1, 56, 57, 58, 59, 60, 39, 61, 47, 62, 63, 64, 27, 65, 66, 67, 68, 69, 70, 71, 72, 46, 105, 106, 107, 108, 109, 110, 111, 112, 113, 114, 115, 116, 117, 118, 119, 120, 121, 122] (by decide +kernel) (by decide +kernel)
set_option maxRecDepth 20000 in
theorem gX2_write_X2_takeBack : GoodIn wsX2_write (wsV RX2 61 RX2 yX2_takeBack wsX2_takeBack) := goodIn_app (goodIn_of _ (by decide +kernel)) ggX2_write_X2_takeBack
set_option maxRecDepth 20000 in
theorem ggX2_write_X0_make : GoodIn wsX2_write wsX0_make := goodIn_r _ [76, 29, 30, 68, 77, 66, 67, 78, 111, 112, 113, 114, 115, 116, 117] (by decide +kernel) (by decide +kernel)
set_option maxRecDepth 20000 in
theorem gX2_write_X0_make : GoodIn wsX2_write (wsV RX2 65 RX0 yX0_make wsX0_make) := goodIn_app (goodIn_of _ (by decide +kernel)) ggX2_write_X0_make
set_option maxRecDepth 20000 in
theorem ggX2_write_X1_enliven : GoodIn wsX2_write wsX1_enliven := goodIn_r _ [82, 47, 83, 70, 71, 39, 72, 46, 118, 119, 120, 121, 122] (by decide +kernel) (by decide +kernel)
set_option maxRecDepth 20000 in
theorem gX2_write_X1_enliven : GoodIn wsX2_write (wsV RX2 69 RX1 yX1_enliven wsX1_enliven) := goodIn_app (goodIn_of _ (by decide +kernel)) ggX2_write_X1_enliven
set_option maxRecDepth 20000 in
theorem ggX2_write_X2_finish : GoodIn wsX2_write wsX2_finish := goodIn_r _ [87, 35, 88, 89, 90, 39, 91, 92, 93, 94, 95, 47, 46, 96, 97, 98, 99, 100, 50, 51, 101, 102, 103, 104, 49, 105, 106, 107, 108, 109, 110, 118, 119, 120, 121, 122] (by decide +kernel) (by decide +kernel)
set_option maxRecDepth 20000 in
theorem gX2_write_X2_finish : GoodIn wsX2_write (wsV RX2 72 RX2 yX2_finish wsX2_finish) := goodIn_app (goodIn_of _ (by decide +kernel)) ggX2_write_X2_finish
theorem dX2_write_0 : decode cX2_write 0 = .ok (.aload_n 0, 1) := by decide +kernel
theorem dX2_write_1 : decode cX2_write 1 = .ok (.iload_n 1, 1) := by decide +kernel
theorem dX2_write_2 : decode cX2_write 2 = .ok (.invokevirtual 38, 3) := by decide +kernel
theorem dX2_write_5 : decode cX2_write 5 = .ok (.astore 5, 2) := by decide +kernel
theorem dX2_write_7 : decode cX2_write 7 = .ok (.iload_n 2, 1) := by decide +kernel
theorem dX2_write_8 : decode cX2_write 8 = .ok (.bipush 16, 2) := by decide +kernel
theorem dX2_write_10 : decode cX2_write 10 = .ok (.invokestatic 42, 3) := by decide +kernel
theorem dX2_write_13 : decode cX2_write 13 = .ok (.iload_n 2, 1) := by decide +kernel
theorem dX2_write_14 : decode cX2_write 14 = .ok (.iconst 1, 1) := by decide +kernel
theorem dX2_write_15 : decode cX2_write 15 = .ok (.invokestatic 46, 3) := by decide +kernel
theorem dX2_write_18 : decode cX2_write 18 = .ok (.aload_n 0, 1) := by decide +kernel
theorem dX2_write_19 : decode cX2_write 19 = .ok (.iload_n 1, 1) := by decide +kernel
theorem dX2_write_20 : decode cX2_write 20 = .ok (.invokevirtual 53, 3) := by decide +kernel
theorem dX2_write_23 : decode cX2_write 23 = .ok (.aload_n 0, 1) := by decide +kernel
theorem dX2_write_24 : decode cX2_write 24 = .ok (.invokevirtual 57, 3) := by decide +kernel
theorem dX2_write_27 : decode cX2_write 27 = .ok (.astore 6, 2) := by decide +kernel
theorem dX2_write_29 : decode cX2_write 29 = .ok (.aload_n 0, 1) := by decide +kernel
theorem dX2_write_30 : decode cX2_write 30 = .ok (.aload 5, 2) := by decide +kernel
theorem dX2_write_32 : decode cX2_write 32 = .ok (.aload 6, 2) := by decide +kernel
theorem dX2_write_34 : decode cX2_write 34 = .ok (.iload_n 2, 1) := by decide +kernel
theorem dX2_write_35 : decode cX2_write 35 = .ok (.iconst (-1), 1) := by decide +kernel
theorem dX2_write_36 : decode cX2_write 36 = .ok (.iconst (-1), 1) := by decide +kernel
theorem dX2_write_37 : decode cX2_write 37 = .ok (.invokevirtual 61, 3) := by decide +kernel
theorem dX2_write_40 : decode cX2_write 40 = .ok (.pop2, 1) := by decide +kernel
theorem dX2_write_41 : decode cX2_write 41 = .ok (.aload 6, 2) := by decide +kernel
theorem dX2_write_43 : decode cX2_write 43 = .ok (.aload_n 0, 1) := by decide +kernel
theorem dX2_write_44 : decode cX2_write 44 = .ok (.getfield 21, 3) := by decide +kernel
theorem dX2_write_47 : decode cX2_write 47 = .ok (.iload_n 1, 1) := by decide +kernel
theorem dX2_write_48 : decode cX2_write 48 = .ok (.iload_n 2, 1) := by decide +kernel
theorem dX2_write_49 : decode cX2_write 49 = .ok (.iconst 0, 1) := by decide +kernel
theorem dX2_write_50 : decode cX2_write 50 = .ok (.lload_n 3, 1) := by decide +kernel
theorem dX2_write_51 : decode cX2_write 51 = .ok (.invokevirtual 65, 3) := by decide +kernel
theorem dX2_write_54 : decode cX2_write 54 = .ok (.invokevirtual 69, 3) := by decide +kernel
theorem dX2_write_57 : decode cX2_write 57 = .ok (.aload_n 0, 1) := by decide +kernel
theorem dX2_write_58 : decode cX2_write 58 = .ok (.aload 5, 2) := by decide +kernel
theorem dX2_write_60 : decode cX2_write 60 = .ok (.aload 6, 2) := by decide +kernel
theorem dX2_write_62 : decode cX2_write 62 = .ok (.invokevirtual 72, 3) := by decide +kernel
theorem dX2_write_65 : decode cX2_write 65 = .ok (.ireturn, 1) := by decide +kernel
set_option maxRecDepth 20000 in
theorem ggX2_count_X2_replicaAt : GoodIn wsX2_count wsX2_replicaAt := goodIn_ca (goodIn_r _ [6, 7, 8, 9, 105, 106, 107, 108, 109, 110] (by decide +kernel) (by decide +kernel)) (goodIn_sub (fun _ h => List.mem_cons_of_mem _ (List.mem_append_left _ (List.mem_append_left _ (List.mem_append_right _ h)))) (by decide +kernel))
set_option maxRecDepth 20000 in
theorem gX2_count_X2_replicaAt : GoodIn wsX2_count (wsV RX2 38 RX2 yX2_replicaAt wsX2_replicaAt) := goodIn_app (goodIn_of _ (by decide +kernel)) ggX2_count_X2_replicaAt
set_option maxRecDepth 20000 in
theorem ggX2_count_X2_requireIndex : GoodIn wsX2_count wsX2_requireIndex := goodIn_ca (goodIn_r _ [12, 7, 8] (by decide +kernel) (by decide +kernel)) (goodIn_sub (fun _ h => List.mem_cons_of_mem _ (List.mem_append_left _ (List.mem_append_left _ (List.mem_append_right _ h)))) (by decide +kernel))
set_option maxRecDepth 20000 in
theorem gX2_count_X2_requireIndex : GoodIn wsX2_count (va_wsS RX2 42 yX2_requireIndex wsX2_requireIndex) := goodIn_app (goodIn_of _ (by decide +kernel)) ggX2_count_X2_requireIndex
set_option maxRecDepth 20000 in
theorem ggX2_count_X2_requireKind : GoodIn wsX2_count wsX2_requireKind := goodIn_ca (goodIn_r _ [15, 16, 17] (by decide +kernel) (by decide +kernel)) (goodIn_sub (fun _ h => List.mem_cons_of_mem _ (List.mem_append_left _ (List.mem_append_right _ h))) (by decide +kernel))
set_option maxRecDepth 20000 in
theorem gX2_count_X2_requireKind : GoodIn wsX2_count (va_wsS RX2 46 yX2_requireKind wsX2_requireKind) := goodIn_app (goodIn_of _ (by decide +kernel)) ggX2_count_X2_requireKind
set_option maxRecDepth 20000 in
theorem ggX2_count_X2_requireDot : GoodIn wsX2_count wsX2_requireDot := goodIn_ca (goodIn_r _ [21, 22, 23, 1, 24, 25, 26, 27, 28, 29, 30, 105, 106, 107, 108, 109, 110, 111, 112, 113, 114, 115, 116, 117] (by decide +kernel) (by decide +kernel)) (goodIn_sub (fun _ h => List.mem_cons_of_mem _ (List.mem_append_right _ h)) (by decide +kernel))
set_option maxRecDepth 20000 in
theorem gX2_count_X2_requireDot : GoodIn wsX2_count (wsV RX2 53 RX2 yX2_requireDot wsX2_requireDot) := goodIn_app (goodIn_of _ (by decide +kernel)) ggX2_count_X2_requireDot
set_option maxRecDepth 20000 in
theorem ggX2_count_X2_openDelta : GoodIn wsX2_count wsX2_openDelta := goodIn_ca (goodIn_r _ [34, 22, 23, 35, 36, 37, 38, 39, 40, 41, 42, 43, 44, 45, 46, 47, 48, 49, 50, 51, 105, 106, 107, 108, 109, 110, 118, 119, 120, 121, 122] (by decide +kernel) (by decide +kernel)) (goodIn_sub (fun _ h => List.mem_cons_of_mem _ (List.mem_append_right _ h)) (by decide +kernel))
set_option maxRecDepth 20000 in
theorem gX2_count_X2_openDelta : GoodIn wsX2_count (wsV RX2 57 RX2 yX2_openDelta wsX2_openDelta) := goodIn_app (goodIn_of _ (by decide +kernel)) ggX2_count_X2_openDelta
set_option maxRecDepth 20000 in
theorem ggX2_count_X2_takeBack : GoodIn wsX2_count wsX2_takeBack := goodIn_r _ [55, 1, 56, 57, 58, 59, 60, 39, 61, 47, 62, 63, 64, 27, 65, 66, 67, 68, 69, 70, 71, 72, 46, 105, 106, 107, 108, 109, 110, 111, 112, 113, 114, 115, 116, 117, 118, 119, 120, 121, 122] (by decide +kernel) (by decide +kernel)
set_option maxRecDepth 20000 in
theorem gX2_count_X2_takeBack : GoodIn wsX2_count (wsV RX2 61 RX2 yX2_takeBack wsX2_takeBack) := goodIn_app (goodIn_of _ (by decide +kernel)) ggX2_count_X2_takeBack
set_option maxRecDepth 20000 in
theorem ggX2_count_X0_make : GoodIn wsX2_count wsX0_make := goodIn_r _ [76, 29, 30, 68, 77, 66, 67, 78, 111, 112, 113, 114, 115, 116, 117] (by decide +kernel) (by decide +kernel)
set_option maxRecDepth 20000 in
theorem gX2_count_X0_make : GoodIn wsX2_count (wsV RX2 65 RX0 yX0_make wsX0_make) := goodIn_app (goodIn_of _ (by decide +kernel)) ggX2_count_X0_make
set_option maxRecDepth 20000 in
theorem ggX2_count_X1_enliven : GoodIn wsX2_count wsX1_enliven := goodIn_r _ [82, 47, 83, 70, 71, 39, 72, 46, 118, 119, 120, 121, 122] (by decide +kernel) (by decide +kernel)
set_option maxRecDepth 20000 in
theorem gX2_count_X1_enliven : GoodIn wsX2_count (wsV RX2 69 RX1 yX1_enliven wsX1_enliven) := goodIn_app (goodIn_of _ (by decide +kernel)) ggX2_count_X1_enliven
set_option maxRecDepth 20000 in
theorem ggX2_count_X2_finish : GoodIn wsX2_count wsX2_finish := goodIn_r _ [87, 35, 88, 89, 90, 39, 91, 92, 93, 94, 95, 47, 46, 96, 97, 98, 99, 100, 50, 51, 101, 102, 103, 104, 49, 105, 106, 107, 108, 109, 110, 118, 119, 120, 121, 122] (by decide +kernel) (by decide +kernel)
set_option maxRecDepth 20000 in
theorem gX2_count_X2_finish : GoodIn wsX2_count (wsV RX2 72 RX2 yX2_finish wsX2_finish) := goodIn_app (goodIn_of _ (by decide +kernel)) ggX2_count_X2_finish
theorem dX2_count_0 : decode cX2_count 0 = .ok (.aload_n 0, 1) := by decide +kernel
theorem dX2_count_1 : decode cX2_count 1 = .ok (.iload_n 1, 1) := by decide +kernel
theorem dX2_count_2 : decode cX2_count 2 = .ok (.invokevirtual 38, 3) := by decide +kernel
theorem dX2_count_5 : decode cX2_count 5 = .ok (.astore 5, 2) := by decide +kernel
theorem dX2_count_7 : decode cX2_count 7 = .ok (.iload_n 2, 1) := by decide +kernel
theorem dX2_count_8 : decode cX2_count 8 = .ok (.bipush 16, 2) := by decide +kernel
theorem dX2_count_10 : decode cX2_count 10 = .ok (.invokestatic 42, 3) := by decide +kernel
theorem dX2_count_13 : decode cX2_count 13 = .ok (.iload_n 2, 1) := by decide +kernel
theorem dX2_count_14 : decode cX2_count 14 = .ok (.iconst 2, 1) := by decide +kernel
theorem dX2_count_15 : decode cX2_count 15 = .ok (.invokestatic 46, 3) := by decide +kernel
theorem dX2_count_18 : decode cX2_count 18 = .ok (.aload_n 0, 1) := by decide +kernel
theorem dX2_count_19 : decode cX2_count 19 = .ok (.iload_n 1, 1) := by decide +kernel
theorem dX2_count_20 : decode cX2_count 20 = .ok (.invokevirtual 53, 3) := by decide +kernel
theorem dX2_count_23 : decode cX2_count 23 = .ok (.aload_n 0, 1) := by decide +kernel
theorem dX2_count_24 : decode cX2_count 24 = .ok (.invokevirtual 57, 3) := by decide +kernel
theorem dX2_count_27 : decode cX2_count 27 = .ok (.astore 6, 2) := by decide +kernel
theorem dX2_count_29 : decode cX2_count 29 = .ok (.aload_n 0, 1) := by decide +kernel
theorem dX2_count_30 : decode cX2_count 30 = .ok (.aload 5, 2) := by decide +kernel
theorem dX2_count_32 : decode cX2_count 32 = .ok (.aload 6, 2) := by decide +kernel
theorem dX2_count_34 : decode cX2_count 34 = .ok (.iload_n 2, 1) := by decide +kernel
theorem dX2_count_35 : decode cX2_count 35 = .ok (.iconst (-1), 1) := by decide +kernel
theorem dX2_count_36 : decode cX2_count 36 = .ok (.iload_n 1, 1) := by decide +kernel
theorem dX2_count_37 : decode cX2_count 37 = .ok (.invokevirtual 61, 3) := by decide +kernel
theorem dX2_count_40 : decode cX2_count 40 = .ok (.lstore 7, 2) := by decide +kernel
theorem dX2_count_42 : decode cX2_count 42 = .ok (.aload 6, 2) := by decide +kernel
theorem dX2_count_44 : decode cX2_count 44 = .ok (.aload_n 0, 1) := by decide +kernel
theorem dX2_count_45 : decode cX2_count 45 = .ok (.getfield 21, 3) := by decide +kernel
theorem dX2_count_48 : decode cX2_count 48 = .ok (.iload_n 1, 1) := by decide +kernel
theorem dX2_count_49 : decode cX2_count 49 = .ok (.iload_n 2, 1) := by decide +kernel
theorem dX2_count_50 : decode cX2_count 50 = .ok (.iconst 0, 1) := by decide +kernel
theorem dX2_count_51 : decode cX2_count 51 = .ok (.lload 7, 2) := by decide +kernel
theorem dX2_count_53 : decode cX2_count 53 = .ok (.lload_n 3, 1) := by decide +kernel
theorem dX2_count_54 : decode cX2_count 54 = .ok (.ladd, 1) := by decide +kernel
theorem dX2_count_55 : decode cX2_count 55 = .ok (.invokevirtual 65, 3) := by decide +kernel
theorem dX2_count_58 : decode cX2_count 58 = .ok (.invokevirtual 69, 3) := by decide +kernel
theorem dX2_count_61 : decode cX2_count 61 = .ok (.aload_n 0, 1) := by decide +kernel
theorem dX2_count_62 : decode cX2_count 62 = .ok (.aload 5, 2) := by decide +kernel
theorem dX2_count_64 : decode cX2_count 64 = .ok (.aload 6, 2) := by decide +kernel
theorem dX2_count_66 : decode cX2_count 66 = .ok (.invokevirtual 72, 3) := by decide +kernel
theorem dX2_count_69 : decode cX2_count 69 = .ok (.ireturn, 1) := by decide +kernel
set_option maxRecDepth 20000 in
theorem ggX2_flag_X2_replicaAt : GoodIn wsX2_flag wsX2_replicaAt := goodIn_ca (goodIn_r _ [5, 6, 7, 8, 109, 110, 111, 112, 113, 114] (by decide +kernel) (by decide +kernel)) (goodIn_sub (fun _ h => List.mem_cons_of_mem _ (List.mem_append_left _ (List.mem_append_left _ (List.mem_append_right _ h)))) (by decide +kernel))
set_option maxRecDepth 20000 in
theorem gX2_flag_X2_replicaAt : GoodIn wsX2_flag (wsV RX2 38 RX2 yX2_replicaAt wsX2_replicaAt) := goodIn_app (goodIn_of _ (by decide +kernel)) ggX2_flag_X2_replicaAt
set_option maxRecDepth 20000 in
theorem ggX2_flag_X2_requireIndex : GoodIn wsX2_flag wsX2_requireIndex := goodIn_ca (goodIn_r _ [11, 6, 7] (by decide +kernel) (by decide +kernel)) (goodIn_sub (fun _ h => List.mem_cons_of_mem _ (List.mem_append_left _ (List.mem_append_left _ (List.mem_append_right _ h)))) (by decide +kernel))
set_option maxRecDepth 20000 in
theorem gX2_flag_X2_requireIndex : GoodIn wsX2_flag (va_wsS RX2 42 yX2_requireIndex wsX2_requireIndex) := goodIn_app (goodIn_of _ (by decide +kernel)) ggX2_flag_X2_requireIndex
set_option maxRecDepth 20000 in
theorem ggX2_flag_X2_requireKind : GoodIn wsX2_flag wsX2_requireKind := goodIn_ca (goodIn_r _ [14, 15, 16] (by decide +kernel) (by decide +kernel)) (goodIn_sub (fun _ h => List.mem_cons_of_mem _ (List.mem_append_left _ (List.mem_append_right _ h))) (by decide +kernel))
set_option maxRecDepth 20000 in
theorem gX2_flag_X2_requireKind : GoodIn wsX2_flag (va_wsS RX2 46 yX2_requireKind wsX2_requireKind) := goodIn_app (goodIn_of _ (by decide +kernel)) ggX2_flag_X2_requireKind
set_option maxRecDepth 20000 in
theorem ggX2_flag_X2_turn : GoodIn wsX2_flag wsX2_turn := goodIn_ca (goodIn_r _ [20, 21, 22, 23, 24, 4, 25, 26, 27, 28, 29, 30, 31, 32, 33, 34, 35, 36, 37, 38, 39, 40, 41, 42, 43, 44, 45, 46, 47, 48, 49, 50, 51, 52, 53, 54, 55, 56, 57, 58, 59, 60, 61, 62, 63, 64, 65, 66, 67, 68, 69, 70, 71, 72, 73, 74, 75, 76, 77, 78, 79, 80, 81, 82, 83, 84, 85, 86, 87, 88, 89, 90, 91, 92, 93, 94, 95, 96, 97, 98, 99, 100, 101, 102, 103, 104, 105, 106, 107, 108, 109, 110, 111, 112, 113, 114, 115, 116, 117, 118, 119, 120, 121, 122, 123, 124, 125, 126] (by decide +kernel) (by decide +kernel)) (goodIn_sub (fun _ h => List.mem_cons_of_mem _ (List.mem_append_right _ h)) (by decide +kernel))
set_option maxRecDepth 20000 in
theorem gX2_flag_X2_turn : GoodIn wsX2_flag (wsV RX2 49 RX2 yX2_turn wsX2_turn) := goodIn_app (goodIn_of _ (by decide +kernel)) ggX2_flag_X2_turn
theorem dX2_flag_0 : decode cX2_flag 0 = .ok (.aload_n 0, 1) := by decide +kernel
theorem dX2_flag_1 : decode cX2_flag 1 = .ok (.iload_n 1, 1) := by decide +kernel
theorem dX2_flag_2 : decode cX2_flag 2 = .ok (.invokevirtual 38, 3) := by decide +kernel
theorem dX2_flag_5 : decode cX2_flag 5 = .ok (.astore 5, 2) := by decide +kernel
theorem dX2_flag_7 : decode cX2_flag 7 = .ok (.iload_n 2, 1) := by decide +kernel
theorem dX2_flag_8 : decode cX2_flag 8 = .ok (.bipush 16, 2) := by decide +kernel
theorem dX2_flag_10 : decode cX2_flag 10 = .ok (.invokestatic 42, 3) := by decide +kernel
theorem dX2_flag_13 : decode cX2_flag 13 = .ok (.iload_n 3, 1) := by decide +kernel
theorem dX2_flag_14 : decode cX2_flag 14 = .ok (.bipush 8, 2) := by decide +kernel
theorem dX2_flag_16 : decode cX2_flag 16 = .ok (.invokestatic 42, 3) := by decide +kernel
theorem dX2_flag_19 : decode cX2_flag 19 = .ok (.iload_n 2, 1) := by decide +kernel
theorem dX2_flag_20 : decode cX2_flag 20 = .ok (.iconst 3, 1) := by decide +kernel
theorem dX2_flag_21 : decode cX2_flag 21 = .ok (.invokestatic 46, 3) := by decide +kernel
theorem dX2_flag_24 : decode cX2_flag 24 = .ok (.aload_n 0, 1) := by decide +kernel
theorem dX2_flag_25 : decode cX2_flag 25 = .ok (.aload 5, 2) := by decide +kernel
theorem dX2_flag_27 : decode cX2_flag 27 = .ok (.iload_n 1, 1) := by decide +kernel
theorem dX2_flag_28 : decode cX2_flag 28 = .ok (.iload_n 2, 1) := by decide +kernel
theorem dX2_flag_29 : decode cX2_flag 29 = .ok (.iload_n 3, 1) := by decide +kernel
theorem dX2_flag_30 : decode cX2_flag 30 = .ok (.iload 4, 2) := by decide +kernel
theorem dX2_flag_32 : decode cX2_flag 32 = .ok (.invokevirtual 49, 3) := by decide +kernel
theorem dX2_flag_35 : decode cX2_flag 35 = .ok (.ireturn, 1) := by decide +kernel
set_option maxRecDepth 20000 in
theorem ggX2_clear_X2_replicaAt : GoodIn wsX2_clear wsX2_replicaAt := goodIn_ca (goodIn_r _ [5, 6, 7, 8, 79, 80, 81, 82, 83, 84] (by decide +kernel) (by decide +kernel)) (goodIn_sub (fun _ h => List.mem_cons_of_mem _ (List.mem_append_left _ (List.mem_append_right _ h))) (by decide +kernel))
set_option maxRecDepth 20000 in
theorem gX2_clear_X2_replicaAt : GoodIn wsX2_clear (wsV RX2 38 RX2 yX2_replicaAt wsX2_replicaAt) := goodIn_app (goodIn_of _ (by decide +kernel)) ggX2_clear_X2_replicaAt
set_option maxRecDepth 20000 in
theorem ggX2_clear_X2_requireIndex : GoodIn wsX2_clear wsX2_requireIndex := goodIn_ca (goodIn_r _ [11, 6, 7] (by decide +kernel) (by decide +kernel)) (goodIn_sub (fun _ h => List.mem_cons_of_mem _ (List.mem_append_left _ (List.mem_append_right _ h))) (by decide +kernel))
set_option maxRecDepth 20000 in
theorem gX2_clear_X2_requireIndex : GoodIn wsX2_clear (va_wsS RX2 42 yX2_requireIndex wsX2_requireIndex) := goodIn_app (goodIn_of _ (by decide +kernel)) ggX2_clear_X2_requireIndex
set_option maxRecDepth 20000 in
theorem ggX2_clear_X2_openDelta : GoodIn wsX2_clear wsX2_openDelta := goodIn_ca (goodIn_r _ [15, 16, 17, 18, 19, 20, 21, 22, 23, 24, 25, 26, 27, 28, 29, 30, 31, 32, 33, 34, 79, 80, 81, 82, 83, 84, 85, 86, 87, 88, 89] (by decide +kernel) (by decide +kernel)) (goodIn_sub (fun _ h => List.mem_cons_of_mem _ (List.mem_append_right _ h)) (by decide +kernel))
set_option maxRecDepth 20000 in
theorem gX2_clear_X2_openDelta : GoodIn wsX2_clear (wsV RX2 57 RX2 yX2_openDelta wsX2_openDelta) := goodIn_app (goodIn_of _ (by decide +kernel)) ggX2_clear_X2_openDelta
set_option maxRecDepth 20000 in
theorem ggX2_clear_X2_takeBack : GoodIn wsX2_clear wsX2_takeBack := goodIn_r _ [38, 39, 40, 41, 42, 43, 44, 22, 45, 30, 46, 47, 48, 49, 50, 51, 52, 53, 54, 55, 56, 57, 29, 79, 80, 81, 82, 83, 84, 90, 91, 92, 93, 94, 95, 96, 85, 86, 87, 88, 89] (by decide +kernel) (by decide +kernel)
set_option maxRecDepth 20000 in
theorem gX2_clear_X2_takeBack : GoodIn wsX2_clear (wsV RX2 61 RX2 yX2_takeBack wsX2_takeBack) := goodIn_app (goodIn_of _ (by decide +kernel)) ggX2_clear_X2_takeBack
set_option maxRecDepth 20000 in
theorem ggX2_clear_X2_finish : GoodIn wsX2_clear wsX2_finish := goodIn_r _ [61, 18, 62, 63, 64, 22, 65, 66, 67, 68, 69, 30, 29, 70, 71, 72, 73, 74, 33, 34, 75, 76, 77, 78, 32, 79, 80, 81, 82, 83, 84, 85, 86, 87, 88, 89] (by decide +kernel) (by decide +kernel)
set_option maxRecDepth 20000 in
theorem gX2_clear_X2_finish : GoodIn wsX2_clear (wsV RX2 72 RX2 yX2_finish wsX2_finish) := goodIn_app (goodIn_of _ (by decide +kernel)) ggX2_clear_X2_finish
theorem dX2_clear_0 : decode cX2_clear 0 = .ok (.aload_n 0, 1) := by decide +kernel
theorem dX2_clear_1 : decode cX2_clear 1 = .ok (.iload_n 1, 1) := by decide +kernel
theorem dX2_clear_2 : decode cX2_clear 2 = .ok (.invokevirtual 38, 3) := by decide +kernel
theorem dX2_clear_5 : decode cX2_clear 5 = .ok (.astore_n 3, 1) := by decide +kernel
theorem dX2_clear_6 : decode cX2_clear 6 = .ok (.iload_n 2, 1) := by decide +kernel
theorem dX2_clear_7 : decode cX2_clear 7 = .ok (.bipush 16, 2) := by decide +kernel
theorem dX2_clear_9 : decode cX2_clear 9 = .ok (.invokestatic 42, 3) := by decide +kernel
theorem dX2_clear_12 : decode cX2_clear 12 = .ok (.aload_n 0, 1) := by decide +kernel
theorem dX2_clear_13 : decode cX2_clear 13 = .ok (.invokevirtual 57, 3) := by decide +kernel
theorem dX2_clear_16 : decode cX2_clear 16 = .ok (.astore 4, 2) := by decide +kernel
theorem dX2_clear_18 : decode cX2_clear 18 = .ok (.aload_n 0, 1) := by decide +kernel
theorem dX2_clear_19 : decode cX2_clear 19 = .ok (.aload_n 3, 1) := by decide +kernel
theorem dX2_clear_20 : decode cX2_clear 20 = .ok (.aload 4, 2) := by decide +kernel
theorem dX2_clear_22 : decode cX2_clear 22 = .ok (.iload_n 2, 1) := by decide +kernel
theorem dX2_clear_23 : decode cX2_clear 23 = .ok (.iconst (-1), 1) := by decide +kernel
theorem dX2_clear_24 : decode cX2_clear 24 = .ok (.iconst (-1), 1) := by decide +kernel
theorem dX2_clear_25 : decode cX2_clear 25 = .ok (.invokevirtual 61, 3) := by decide +kernel
theorem dX2_clear_28 : decode cX2_clear 28 = .ok (.pop2, 1) := by decide +kernel
theorem dX2_clear_29 : decode cX2_clear 29 = .ok (.aload_n 0, 1) := by decide +kernel
theorem dX2_clear_30 : decode cX2_clear 30 = .ok (.aload_n 3, 1) := by decide +kernel
theorem dX2_clear_31 : decode cX2_clear 31 = .ok (.aload 4, 2) := by decide +kernel
theorem dX2_clear_33 : decode cX2_clear 33 = .ok (.invokevirtual 72, 3) := by decide +kernel
theorem dX2_clear_36 : decode cX2_clear 36 = .ok (.ireturn, 1) := by decide +kernel
set_option maxRecDepth 20000 in
theorem ggX2_twice_X2_replicaAt : GoodIn wsX2_twice wsX2_replicaAt := goodIn_ca (goodIn_r _ [7, 8, 9, 10, 63, 64, 65, 66, 67, 68] (by decide +kernel) (by decide +kernel)) (goodIn_sub (fun _ h => List.mem_cons_of_mem _ (List.mem_append_left _ (List.mem_append_right _ h))) (by decide +kernel))
set_option maxRecDepth 20000 in
theorem gX2_twice_X2_replicaAt : GoodIn wsX2_twice (wsV RX2 38 RX2 yX2_replicaAt wsX2_replicaAt) := goodIn_app (goodIn_of _ (by decide +kernel)) ggX2_twice_X2_replicaAt
set_option maxRecDepth 20000 in
theorem ggX2_twice_X2_requireIndex : GoodIn wsX2_twice wsX2_requireIndex := goodIn_ca (goodIn_r _ [13, 8, 9] (by decide +kernel) (by decide +kernel)) (goodIn_sub (fun _ h => List.mem_cons_of_mem _ (List.mem_append_left _ (List.mem_append_right _ h))) (by decide +kernel))
set_option maxRecDepth 20000 in
theorem gX2_twice_X2_requireIndex : GoodIn wsX2_twice (va_wsS RX2 42 yX2_requireIndex wsX2_requireIndex) := goodIn_app (goodIn_of _ (by decide +kernel)) ggX2_twice_X2_requireIndex
set_option maxRecDepth 20000 in
theorem ggX2_twice_X2_openDelta : GoodIn wsX2_twice wsX2_openDelta := goodIn_ca (goodIn_r _ [17, 18, 19, 20, 21, 22, 23, 24, 25, 26, 27, 28, 29, 30, 31, 32, 33, 34, 35, 36, 63, 64, 65, 66, 67, 68, 58, 59, 60, 61, 62] (by decide +kernel) (by decide +kernel)) (goodIn_sub (fun _ h => List.mem_cons_of_mem _ (List.mem_append_right _ h)) (by decide +kernel))
set_option maxRecDepth 20000 in
theorem gX2_twice_X2_openDelta : GoodIn wsX2_twice (wsV RX2 57 RX2 yX2_openDelta wsX2_openDelta) := goodIn_app (goodIn_of _ (by decide +kernel)) ggX2_twice_X2_openDelta
set_option maxRecDepth 20000 in
theorem ggX2_twice_X2_finish : GoodIn wsX2_twice wsX2_finish := goodIn_r _ [40, 20, 41, 42, 43, 24, 44, 45, 46, 47, 48, 32, 31, 49, 50, 51, 52, 53, 35, 36, 54, 55, 56, 57, 34, 63, 64, 65, 66, 67, 68, 58, 59, 60, 61, 62] (by decide +kernel) (by decide +kernel)
set_option maxRecDepth 20000 in
theorem gX2_twice_X2_finish : GoodIn wsX2_twice (wsV RX2 72 RX2 yX2_finish wsX2_finish) := goodIn_app (goodIn_of _ (by decide +kernel)) ggX2_twice_X2_finish
theorem dX2_twice_0 : decode cX2_twice 0 = .ok (.aload_n 0, 1) := by decide +kernel
theorem dX2_twice_1 : decode cX2_twice 1 = .ok (.iload_n 1, 1) := by decide +kernel
theorem dX2_twice_2 : decode cX2_twice 2 = .ok (.invokevirtual 38, 3) := by decide +kernel
theorem dX2_twice_5 : decode cX2_twice 5 = .ok (.astore 4, 2) := by decide +kernel
theorem dX2_twice_7 : decode cX2_twice 7 = .ok (.iload_n 2, 1) := by decide +kernel
theorem dX2_twice_8 : decode cX2_twice 8 = .ok (.bipush 32, 2) := by decide +kernel
theorem dX2_twice_10 : decode cX2_twice 10 = .ok (.invokestatic 42, 3) := by decide +kernel
theorem dX2_twice_13 : decode cX2_twice 13 = .ok (.aload_n 0, 1) := by decide +kernel
theorem dX2_twice_14 : decode cX2_twice 14 = .ok (.invokevirtual 57, 3) := by decide +kernel
theorem dX2_twice_17 : decode cX2_twice 17 = .ok (.astore 5, 2) := by decide +kernel
theorem dX2_twice_19 : decode cX2_twice 19 = .ok (.iload_n 3, 1) := by decide +kernel
theorem dX2_twice_20 : decode cX2_twice 20 = .ok (.ifCond .eq 14, 3) := by decide +kernel
theorem dX2_twice_23 : decode cX2_twice 23 = .ok (.aload 5, 2) := by decide +kernel
theorem dX2_twice_25 : decode cX2_twice 25 = .ok (.iconst 1, 1) := by decide +kernel
theorem dX2_twice_26 : decode cX2_twice 26 = .ok (.iload_n 2, 1) := by decide +kernel
theorem dX2_twice_27 : decode cX2_twice 27 = .ok (.ishl, 1) := by decide +kernel
theorem dX2_twice_28 : decode cX2_twice 28 = .ok (.putfield 76, 3) := by decide +kernel
theorem dX2_twice_31 : decode cX2_twice 31 = .ok (.goto 11, 3) := by decide +kernel
theorem dX2_twice_34 : decode cX2_twice 34 = .ok (.aload 5, 2) := by decide +kernel
theorem dX2_twice_36 : decode cX2_twice 36 = .ok (.iconst 1, 1) := by decide +kernel
theorem dX2_twice_37 : decode cX2_twice 37 = .ok (.iload_n 2, 1) := by decide +kernel
theorem dX2_twice_38 : decode cX2_twice 38 = .ok (.ishl, 1) := by decide +kernel
theorem dX2_twice_39 : decode cX2_twice 39 = .ok (.putfield 79, 3) := by decide +kernel
theorem dX2_twice_42 : decode cX2_twice 42 = .ok (.aload_n 0, 1) := by decide +kernel
theorem dX2_twice_43 : decode cX2_twice 43 = .ok (.aload 4, 2) := by decide +kernel
theorem dX2_twice_45 : decode cX2_twice 45 = .ok (.aload 5, 2) := by decide +kernel
theorem dX2_twice_47 : decode cX2_twice 47 = .ok (.invokevirtual 72, 3) := by decide +kernel
theorem dX2_twice_50 : decode cX2_twice 50 = .ok (.ireturn, 1) := by decide +kernel
set_option maxRecDepth 20000 in
theorem ggX2_timed_X2_replicaAt : GoodIn wsX2_timed wsX2_replicaAt := goodIn_ca (goodIn_r _ [6, 7, 8, 9, 74, 75, 76, 77, 78, 79] (by decide +kernel) (by decide +kernel)) (goodIn_sub (fun _ h => List.mem_cons_of_mem _ (List.mem_append_left _ (List.mem_append_left _ (List.mem_append_right _ h)))) (by decide +kernel))
set_option maxRecDepth 20000 in
theorem gX2_timed_X2_replicaAt : GoodIn wsX2_timed (wsV RX2 38 RX2 yX2_replicaAt wsX2_replicaAt) := goodIn_app (goodIn_of _ (by decide +kernel)) ggX2_timed_X2_replicaAt
set_option maxRecDepth 20000 in
theorem ggX2_timed_X2_requireIndex : GoodIn wsX2_timed wsX2_requireIndex := goodIn_ca (goodIn_r _ [12, 7, 8] (by decide +kernel) (by decide +kernel)) (goodIn_sub (fun _ h => List.mem_cons_of_mem _ (List.mem_append_left _ (List.mem_append_left _ (List.mem_append_right _ h)))) (by decide +kernel))
set_option maxRecDepth 20000 in
theorem gX2_timed_X2_requireIndex : GoodIn wsX2_timed (va_wsS RX2 42 yX2_requireIndex wsX2_requireIndex) := goodIn_app (goodIn_of _ (by decide +kernel)) ggX2_timed_X2_requireIndex
set_option maxRecDepth 20000 in
theorem ggX2_timed_X2_requireTime : GoodIn wsX2_timed wsX2_requireTime := goodIn_ca (goodIn_r _ [15, 16, 17, 18] (by decide +kernel) (by decide +kernel)) (goodIn_sub (fun _ h => List.mem_cons_of_mem _ (List.mem_append_left _ (List.mem_append_right _ h))) (by decide +kernel))
set_option maxRecDepth 20000 in
theorem gX2_timed_X2_requireTime : GoodIn wsX2_timed (va_wsS RX2 82 yX2_requireTime wsX2_requireTime) := goodIn_app (goodIn_of _ (by decide +kernel)) ggX2_timed_X2_requireTime
set_option maxRecDepth 20000 in
theorem ggX2_timed_X2_openDelta : GoodIn wsX2_timed wsX2_openDelta := goodIn_ca (goodIn_r _ [22, 23, 24, 25, 26, 27, 28, 29, 30, 31, 32, 33, 34, 35, 36, 37, 38, 39, 40, 41, 74, 75, 76, 77, 78, 79, 69, 70, 71, 72, 73] (by decide +kernel) (by decide +kernel)) (goodIn_sub (fun _ h => List.mem_cons_of_mem _ (List.mem_append_right _ h)) (by decide +kernel))
set_option maxRecDepth 20000 in
theorem gX2_timed_X2_openDelta : GoodIn wsX2_timed (wsV RX2 57 RX2 yX2_openDelta wsX2_openDelta) := goodIn_app (goodIn_of _ (by decide +kernel)) ggX2_timed_X2_openDelta
set_option maxRecDepth 20000 in
theorem ggX2_timed_X2_stamp : GoodIn wsX2_timed wsX2_stamp := goodIn_r _ [44, 45, 46, 5, 47] (by decide +kernel) (by decide +kernel)
set_option maxRecDepth 20000 in
theorem gX2_timed_X2_stamp : GoodIn wsX2_timed (va_wsS RX2 89 yX2_stamp wsX2_stamp) := goodIn_app (goodIn_of _ (by decide +kernel)) ggX2_timed_X2_stamp
set_option maxRecDepth 20000 in
theorem ggX2_timed_X2_finish : GoodIn wsX2_timed wsX2_finish := goodIn_r _ [51, 25, 52, 53, 54, 29, 55, 56, 57, 58, 59, 37, 36, 60, 61, 62, 63, 64, 40, 41, 65, 66, 67, 68, 39, 74, 75, 76, 77, 78, 79, 69, 70, 71, 72, 73] (by decide +kernel) (by decide +kernel)
set_option maxRecDepth 20000 in
theorem gX2_timed_X2_finish : GoodIn wsX2_timed (wsV RX2 72 RX2 yX2_finish wsX2_finish) := goodIn_app (goodIn_of _ (by decide +kernel)) ggX2_timed_X2_finish
theorem dX2_timed_0 : decode cX2_timed 0 = .ok (.aload_n 0, 1) := by decide +kernel
theorem dX2_timed_1 : decode cX2_timed 1 = .ok (.iload_n 1, 1) := by decide +kernel
theorem dX2_timed_2 : decode cX2_timed 2 = .ok (.invokevirtual 38, 3) := by decide +kernel
theorem dX2_timed_5 : decode cX2_timed 5 = .ok (.astore 5, 2) := by decide +kernel
theorem dX2_timed_7 : decode cX2_timed 7 = .ok (.iload_n 2, 1) := by decide +kernel
theorem dX2_timed_8 : decode cX2_timed 8 = .ok (.bipush 32, 2) := by decide +kernel
theorem dX2_timed_10 : decode cX2_timed 10 = .ok (.invokestatic 42, 3) := by decide +kernel
theorem dX2_timed_13 : decode cX2_timed 13 = .ok (.iload_n 3, 1) := by decide +kernel
theorem dX2_timed_14 : decode cX2_timed 14 = .ok (.invokestatic 82, 3) := by decide +kernel
theorem dX2_timed_17 : decode cX2_timed 17 = .ok (.aload_n 0, 1) := by decide +kernel
theorem dX2_timed_18 : decode cX2_timed 18 = .ok (.invokevirtual 57, 3) := by decide +kernel
theorem dX2_timed_21 : decode cX2_timed 21 = .ok (.astore 6, 2) := by decide +kernel
theorem dX2_timed_23 : decode cX2_timed 23 = .ok (.aload 6, 2) := by decide +kernel
theorem dX2_timed_25 : decode cX2_timed 25 = .ok (.getfield 85, 3) := by decide +kernel
theorem dX2_timed_28 : decode cX2_timed 28 = .ok (.iload_n 2, 1) := by decide +kernel
theorem dX2_timed_29 : decode cX2_timed 29 = .ok (.iload_n 3, 1) := by decide +kernel
theorem dX2_timed_30 : decode cX2_timed 30 = .ok (.iload_n 1, 1) := by decide +kernel
theorem dX2_timed_31 : decode cX2_timed 31 = .ok (.iload 4, 2) := by decide +kernel
theorem dX2_timed_33 : decode cX2_timed 33 = .ok (.invokestatic 89, 3) := by decide +kernel
theorem dX2_timed_36 : decode cX2_timed 36 = .ok (.iastore, 1) := by decide +kernel
theorem dX2_timed_37 : decode cX2_timed 37 = .ok (.aload_n 0, 1) := by decide +kernel
theorem dX2_timed_38 : decode cX2_timed 38 = .ok (.aload 5, 2) := by decide +kernel
theorem dX2_timed_40 : decode cX2_timed 40 = .ok (.aload 6, 2) := by decide +kernel
theorem dX2_timed_42 : decode cX2_timed 42 = .ok (.invokevirtual 72, 3) := by decide +kernel
theorem dX2_timed_45 : decode cX2_timed 45 = .ok (.ireturn, 1) := by decide +kernel
set_option maxRecDepth 20000 in
theorem ggX2_join_X2_replicaAt : GoodIn wsX2_join wsX2_replicaAt := goodIn_ca (goodIn_r _ [5, 6, 7, 8, 40, 41, 42, 43, 44, 45] (by decide +kernel) (by decide +kernel)) (goodIn_sub (fun _ h => List.mem_cons_of_mem _ (List.mem_append_right _ h)) (by decide +kernel))
set_option maxRecDepth 20000 in
theorem gX2_join_X2_replicaAt : GoodIn wsX2_join (wsV RX2 38 RX2 yX2_replicaAt wsX2_replicaAt) := goodIn_app (goodIn_of _ (by decide +kernel)) ggX2_join_X2_replicaAt
set_option maxRecDepth 20000 in
theorem ggX2_join_X2_deltaAt : GoodIn wsX2_join wsX2_deltaAt := goodIn_ca (goodIn_r _ [12, 6, 7, 13, 40, 41, 42, 43, 44, 45] (by decide +kernel) (by decide +kernel)) (goodIn_sub (fun _ h => List.mem_cons_of_mem _ (List.mem_append_right _ h)) (by decide +kernel))
set_option maxRecDepth 20000 in
theorem gX2_join_X2_deltaAt : GoodIn wsX2_join (wsV RX2 93 RX2 yX2_deltaAt wsX2_deltaAt) := goodIn_app (goodIn_of _ (by decide +kernel)) ggX2_join_X2_deltaAt
set_option maxRecDepth 20000 in
theorem ggX2_join_X1_take : GoodIn wsX2_join wsX1_take := goodIn_r _ [18, 19, 20, 21, 17, 22, 23, 24, 25, 26, 27, 28, 29, 30, 31, 32, 33, 34, 35, 36, 46, 47, 48, 49, 50] (by decide +kernel) (by decide +kernel)
set_option maxRecDepth 20000 in
theorem gX2_join_X1_take : GoodIn wsX2_join (wsV RX2 96 RX1 yX1_take wsX1_take) := goodIn_app (goodIn_of _ (by decide +kernel)) ggX2_join_X1_take
set_option maxRecDepth 20000 in
theorem ggX2_join_X2_bit : GoodIn wsX2_join wsX2_bit := goodIn_r _ [39] (by decide +kernel) (by decide +kernel)
set_option maxRecDepth 20000 in
theorem gX2_join_X2_bit : GoodIn wsX2_join (va_wsS RX2 100 yX2_bit wsX2_bit) := goodIn_app (goodIn_of _ (by decide +kernel)) ggX2_join_X2_bit
theorem dX2_join_0 : decode cX2_join 0 = .ok (.aload_n 0, 1) := by decide +kernel
theorem dX2_join_1 : decode cX2_join 1 = .ok (.iload_n 1, 1) := by decide +kernel
theorem dX2_join_2 : decode cX2_join 2 = .ok (.invokevirtual 38, 3) := by decide +kernel
theorem dX2_join_5 : decode cX2_join 5 = .ok (.astore_n 3, 1) := by decide +kernel
theorem dX2_join_6 : decode cX2_join 6 = .ok (.aload_n 3, 1) := by decide +kernel
theorem dX2_join_7 : decode cX2_join 7 = .ok (.aload_n 0, 1) := by decide +kernel
theorem dX2_join_8 : decode cX2_join 8 = .ok (.iload_n 2, 1) := by decide +kernel
theorem dX2_join_9 : decode cX2_join 9 = .ok (.invokevirtual 93, 3) := by decide +kernel
theorem dX2_join_12 : decode cX2_join 12 = .ok (.invokevirtual 96, 3) := by decide +kernel
theorem dX2_join_15 : decode cX2_join 15 = .ok (.invokestatic 100, 3) := by decide +kernel
theorem dX2_join_18 : decode cX2_join 18 = .ok (.ireturn, 1) := by decide +kernel
set_option maxRecDepth 20000 in
theorem ggX2_merge_X2_replicaAt : GoodIn wsX2_merge wsX2_replicaAt := goodIn_ca (goodIn_r _ [5, 6, 7, 8, 35, 36, 37, 38, 39, 40] (by decide +kernel) (by decide +kernel)) (goodIn_sub (fun _ h => List.mem_cons_of_mem _ (List.mem_append_right _ h)) (by decide +kernel))
set_option maxRecDepth 20000 in
theorem gX2_merge_X2_replicaAt : GoodIn wsX2_merge (wsV RX2 38 RX2 yX2_replicaAt wsX2_replicaAt) := goodIn_app (goodIn_of _ (by decide +kernel)) ggX2_merge_X2_replicaAt
set_option maxRecDepth 20000 in
theorem ggX2_merge_X1_take : GoodIn wsX2_merge wsX1_take := goodIn_r _ [13, 14, 15, 16, 12, 17, 18, 19, 20, 21, 22, 23, 24, 25, 26, 27, 28, 29, 30, 31, 41, 42, 43, 44, 45] (by decide +kernel) (by decide +kernel)
set_option maxRecDepth 20000 in
theorem gX2_merge_X1_take : GoodIn wsX2_merge (wsV RX2 96 RX1 yX1_take wsX1_take) := goodIn_app (goodIn_of _ (by decide +kernel)) ggX2_merge_X1_take
set_option maxRecDepth 20000 in
theorem ggX2_merge_X2_bit : GoodIn wsX2_merge wsX2_bit := goodIn_r _ [34] (by decide +kernel) (by decide +kernel)
set_option maxRecDepth 20000 in
theorem gX2_merge_X2_bit : GoodIn wsX2_merge (va_wsS RX2 100 yX2_bit wsX2_bit) := goodIn_app (goodIn_of _ (by decide +kernel)) ggX2_merge_X2_bit
theorem dX2_merge_0 : decode cX2_merge 0 = .ok (.aload_n 0, 1) := by decide +kernel
theorem dX2_merge_1 : decode cX2_merge 1 = .ok (.iload_n 1, 1) := by decide +kernel
theorem dX2_merge_2 : decode cX2_merge 2 = .ok (.invokevirtual 38, 3) := by decide +kernel
theorem dX2_merge_5 : decode cX2_merge 5 = .ok (.astore_n 3, 1) := by decide +kernel
theorem dX2_merge_6 : decode cX2_merge 6 = .ok (.aload_n 3, 1) := by decide +kernel
end
section
theorem dX2_merge_7 : decode cX2_merge 7 = .ok (.aload_n 0, 1) := by decide +kernel
theorem dX2_merge_8 : decode cX2_merge 8 = .ok (.iload_n 2, 1) := by decide +kernel
theorem dX2_merge_9 : decode cX2_merge 9 = .ok (.invokevirtual 38, 3) := by decide +kernel
theorem dX2_merge_12 : decode cX2_merge 12 = .ok (.invokevirtual 96, 3) := by decide +kernel
theorem dX2_merge_15 : decode cX2_merge 15 = .ok (.invokestatic 100, 3) := by decide +kernel
theorem dX2_merge_18 : decode cX2_merge 18 = .ok (.ireturn, 1) := by decide +kernel
set_option maxRecDepth 20000 in
theorem ggX2_group_X2_deltaAt : GoodIn wsX2_group wsX2_deltaAt := goodIn_ca (goodIn_r _ [6, 7, 8, 9, 56, 57, 58, 59, 60, 61] (by decide +kernel) (by decide +kernel)) (goodIn_sub (fun _ h => List.mem_cons_of_mem _ (List.mem_append_left _ (List.mem_append_right _ h))) (by decide +kernel))
set_option maxRecDepth 20000 in
theorem gX2_group_X2_deltaAt : GoodIn wsX2_group (wsV RX2 93 RX2 yX2_deltaAt wsX2_deltaAt) := goodIn_app (goodIn_of _ (by decide +kernel)) ggX2_group_X2_deltaAt
set_option maxRecDepth 20000 in
theorem ggX2_group_X2_openDelta : GoodIn wsX2_group wsX2_openDelta := goodIn_ca (goodIn_r _ [13, 14, 15, 1, 9, 16, 17, 18, 19, 20, 21, 22, 23, 24, 25, 26, 27, 28, 29, 30, 56, 57, 58, 59, 60, 61, 62, 63, 64, 65, 66] (by decide +kernel) (by decide +kernel)) (goodIn_sub (fun _ h => List.mem_cons_of_mem _ (List.mem_append_right _ h)) (by decide +kernel))
set_option maxRecDepth 20000 in
theorem gX2_group_X2_openDelta : GoodIn wsX2_group (wsV RX2 57 RX2 yX2_openDelta wsX2_openDelta) := goodIn_app (goodIn_of _ (by decide +kernel)) ggX2_group_X2_openDelta
set_option maxRecDepth 20000 in
theorem ggX2_group_X1_become : GoodIn wsX2_group wsX1_become := goodIn_r _ [34, 25, 35, 36, 37, 38, 26, 28, 29, 30, 62, 63, 64, 65, 66] (by decide +kernel) (by decide +kernel)
set_option maxRecDepth 20000 in
theorem gX2_group_X1_become : GoodIn wsX2_group (wsV RX2 104 RX1 yX1_become wsX1_become) := goodIn_app (goodIn_of _ (by decide +kernel)) ggX2_group_X1_become
set_option maxRecDepth 20000 in
theorem ggX2_group_X1_take : GoodIn wsX2_group wsX1_take := goodIn_r _ [42, 43, 44, 45, 18, 46, 26, 25, 47, 48, 49, 50, 51, 29, 30, 52, 53, 54, 55, 28, 62, 63, 64, 65, 66] (by decide +kernel) (by decide +kernel)
set_option maxRecDepth 20000 in
theorem gX2_group_X1_take : GoodIn wsX2_group (wsV RX2 96 RX1 yX1_take wsX1_take) := goodIn_app (goodIn_of _ (by decide +kernel)) ggX2_group_X1_take
theorem dX2_group_0 : decode cX2_group 0 = .ok (.aload_n 0, 1) := by decide +kernel
theorem dX2_group_1 : decode cX2_group 1 = .ok (.iload_n 1, 1) := by decide +kernel
theorem dX2_group_2 : decode cX2_group 2 = .ok (.invokevirtual 93, 3) := by decide +kernel
theorem dX2_group_5 : decode cX2_group 5 = .ok (.astore_n 3, 1) := by decide +kernel
theorem dX2_group_6 : decode cX2_group 6 = .ok (.aload_n 0, 1) := by decide +kernel
theorem dX2_group_7 : decode cX2_group 7 = .ok (.iload_n 2, 1) := by decide +kernel
theorem dX2_group_8 : decode cX2_group 8 = .ok (.invokevirtual 93, 3) := by decide +kernel
theorem dX2_group_11 : decode cX2_group 11 = .ok (.astore 4, 2) := by decide +kernel
theorem dX2_group_13 : decode cX2_group 13 = .ok (.aload_n 0, 1) := by decide +kernel
theorem dX2_group_14 : decode cX2_group 14 = .ok (.invokevirtual 57, 3) := by decide +kernel
theorem dX2_group_17 : decode cX2_group 17 = .ok (.astore 5, 2) := by decide +kernel
theorem dX2_group_19 : decode cX2_group 19 = .ok (.aload 5, 2) := by decide +kernel
theorem dX2_group_21 : decode cX2_group 21 = .ok (.aload_n 3, 1) := by decide +kernel
theorem dX2_group_22 : decode cX2_group 22 = .ok (.invokevirtual 104, 3) := by decide +kernel
theorem dX2_group_25 : decode cX2_group 25 = .ok (.aload 5, 2) := by decide +kernel
theorem dX2_group_27 : decode cX2_group 27 = .ok (.aload 4, 2) := by decide +kernel
theorem dX2_group_29 : decode cX2_group 29 = .ok (.invokevirtual 96, 3) := by decide +kernel
theorem dX2_group_32 : decode cX2_group 32 = .ok (.pop, 1) := by decide +kernel
theorem dX2_group_33 : decode cX2_group 33 = .ok (.aload_n 0, 1) := by decide +kernel
theorem dX2_group_34 : decode cX2_group 34 = .ok (.getfield 34, 3) := by decide +kernel
theorem dX2_group_37 : decode cX2_group 37 = .ok (.iconst 1, 1) := by decide +kernel
theorem dX2_group_38 : decode cX2_group 38 = .ok (.isub, 1) := by decide +kernel
theorem dX2_group_39 : decode cX2_group 39 = .ok (.ireturn, 1) := by decide +kernel
set_option maxRecDepth 20000 in
theorem ggX2_whole_X2_replicaAt : GoodIn wsX2_whole wsX2_replicaAt := goodIn_ca (goodIn_r _ [6, 7, 8, 9, 40, 41, 42, 43, 44, 45] (by decide +kernel) (by decide +kernel)) (goodIn_sub (fun _ h => List.mem_cons_of_mem _ (List.mem_append_left _ (List.mem_append_right _ h))) (by decide +kernel))
set_option maxRecDepth 20000 in
theorem gX2_whole_X2_replicaAt : GoodIn wsX2_whole (wsV RX2 38 RX2 yX2_replicaAt wsX2_replicaAt) := goodIn_app (goodIn_of _ (by decide +kernel)) ggX2_whole_X2_replicaAt
set_option maxRecDepth 20000 in
theorem ggX2_whole_X2_openDelta : GoodIn wsX2_whole wsX2_openDelta := goodIn_ca (goodIn_r _ [13, 14, 15, 1, 16, 17, 18, 19, 20, 21, 22, 23, 24, 25, 26, 27, 28, 29, 30, 31, 40, 41, 42, 43, 44, 45, 46, 47, 48, 49, 50] (by decide +kernel) (by decide +kernel)) (goodIn_sub (fun _ h => List.mem_cons_of_mem _ (List.mem_append_right _ h)) (by decide +kernel))
set_option maxRecDepth 20000 in
theorem gX2_whole_X2_openDelta : GoodIn wsX2_whole (wsV RX2 57 RX2 yX2_openDelta wsX2_openDelta) := goodIn_app (goodIn_of _ (by decide +kernel)) ggX2_whole_X2_openDelta
set_option maxRecDepth 20000 in
theorem ggX2_whole_X1_become : GoodIn wsX2_whole wsX1_become := goodIn_r _ [35, 26, 36, 37, 38, 39, 27, 29, 30, 31, 46, 47, 48, 49, 50] (by decide +kernel) (by decide +kernel)
set_option maxRecDepth 20000 in
theorem gX2_whole_X1_become : GoodIn wsX2_whole (wsV RX2 104 RX1 yX1_become wsX1_become) := goodIn_app (goodIn_of _ (by decide +kernel)) ggX2_whole_X1_become
theorem dX2_whole_0 : decode cX2_whole 0 = .ok (.aload_n 0, 1) := by decide +kernel
theorem dX2_whole_1 : decode cX2_whole 1 = .ok (.iload_n 1, 1) := by decide +kernel
theorem dX2_whole_2 : decode cX2_whole 2 = .ok (.invokevirtual 38, 3) := by decide +kernel
theorem dX2_whole_5 : decode cX2_whole 5 = .ok (.astore_n 2, 1) := by decide +kernel
theorem dX2_whole_6 : decode cX2_whole 6 = .ok (.aload_n 0, 1) := by decide +kernel
theorem dX2_whole_7 : decode cX2_whole 7 = .ok (.invokevirtual 57, 3) := by decide +kernel
theorem dX2_whole_10 : decode cX2_whole 10 = .ok (.aload_n 2, 1) := by decide +kernel
theorem dX2_whole_11 : decode cX2_whole 11 = .ok (.invokevirtual 104, 3) := by decide +kernel
theorem dX2_whole_14 : decode cX2_whole 14 = .ok (.aload_n 0, 1) := by decide +kernel
theorem dX2_whole_15 : decode cX2_whole 15 = .ok (.getfield 34, 3) := by decide +kernel
theorem dX2_whole_18 : decode cX2_whole 18 = .ok (.iconst 1, 1) := by decide +kernel
theorem dX2_whole_19 : decode cX2_whole 19 = .ok (.isub, 1) := by decide +kernel
theorem dX2_whole_20 : decode cX2_whole 20 = .ok (.ireturn, 1) := by decide +kernel
theorem dX2_deltas_0 : decode cX2_deltas 0 = .ok (.aload_n 0, 1) := by decide +kernel
theorem dX2_deltas_1 : decode cX2_deltas 1 = .ok (.getfield 34, 3) := by decide +kernel
theorem dX2_deltas_4 : decode cX2_deltas 4 = .ok (.ireturn, 1) := by decide +kernel
set_option maxRecDepth 20000 in
theorem ggX2_has_X2_replicaAt : GoodIn wsX2_has wsX2_replicaAt := goodIn_ca (goodIn_r _ [7, 8, 9, 10, 28, 29, 30, 31, 32, 33] (by decide +kernel) (by decide +kernel)) (goodIn_sub (fun _ h => List.mem_cons_of_mem _ (List.mem_append_right _ h)) (by decide +kernel))
set_option maxRecDepth 20000 in
theorem gX2_has_X2_replicaAt : GoodIn wsX2_has (wsV RX2 38 RX2 yX2_replicaAt wsX2_replicaAt) := goodIn_app (goodIn_of _ (by decide +kernel)) ggX2_has_X2_replicaAt
set_option maxRecDepth 20000 in
theorem ggX2_has_X2_requireIndex : GoodIn wsX2_has wsX2_requireIndex := goodIn_ca (goodIn_r _ [13, 8, 9] (by decide +kernel) (by decide +kernel)) (goodIn_sub (fun _ h => List.mem_cons_of_mem _ (List.mem_append_right _ h)) (by decide +kernel))
set_option maxRecDepth 20000 in
theorem gX2_has_X2_requireIndex : GoodIn wsX2_has (va_wsS RX2 42 yX2_requireIndex wsX2_requireIndex) := goodIn_app (goodIn_of _ (by decide +kernel)) ggX2_has_X2_requireIndex
set_option maxRecDepth 20000 in
theorem ggX2_has_X1_isLive : GoodIn wsX2_has wsX1_isLive := goodIn_r _ [18, 19, 41, 42, 43, 44, 45] (by decide +kernel) (by decide +kernel)
set_option maxRecDepth 20000 in
theorem gX2_has_X1_isLive : GoodIn wsX2_has (wsV RX2 111 RX1 yX1_isLive wsX1_isLive) := goodIn_app (goodIn_of _ (by decide +kernel)) ggX2_has_X1_isLive
set_option maxRecDepth 20000 in
theorem ggX2_has_X0_fits : GoodIn wsX2_has wsX0_fits := goodIn_r _ [24, 25, 26, 27, 34, 35, 36, 37, 38, 39, 40] (by decide +kernel) (by decide +kernel)
set_option maxRecDepth 20000 in
theorem gX2_has_X0_fits : GoodIn wsX2_has (wsV RX2 115 RX0 yX0_fits wsX0_fits) := goodIn_app (goodIn_of _ (by decide +kernel)) ggX2_has_X0_fits
theorem dX2_has_0 : decode cX2_has 0 = .ok (.aload_n 0, 1) := by decide +kernel
theorem dX2_has_1 : decode cX2_has 1 = .ok (.iload_n 1, 1) := by decide +kernel
theorem dX2_has_2 : decode cX2_has 2 = .ok (.invokevirtual 38, 3) := by decide +kernel
theorem dX2_has_5 : decode cX2_has 5 = .ok (.astore 4, 2) := by decide +kernel
theorem dX2_has_7 : decode cX2_has 7 = .ok (.iload_n 2, 1) := by decide +kernel
theorem dX2_has_8 : decode cX2_has 8 = .ok (.bipush 16, 2) := by decide +kernel
theorem dX2_has_10 : decode cX2_has 10 = .ok (.invokestatic 42, 3) := by decide +kernel
theorem dX2_has_13 : decode cX2_has 13 = .ok (.iload_n 3, 1) := by decide +kernel
theorem dX2_has_14 : decode cX2_has 14 = .ok (.bipush 32, 2) := by decide +kernel
theorem dX2_has_16 : decode cX2_has 16 = .ok (.invokestatic 42, 3) := by decide +kernel
theorem dX2_has_19 : decode cX2_has 19 = .ok (.iconst 0, 1) := by decide +kernel
theorem dX2_has_20 : decode cX2_has 20 = .ok (.istore 5, 2) := by decide +kernel
theorem dX2_has_22 : decode cX2_has 22 = .ok (.iload 5, 2) := by decide +kernel
theorem dX2_has_24 : decode cX2_has 24 = .ok (.aload_n 0, 1) := by decide +kernel
theorem dX2_has_25 : decode cX2_has 25 = .ok (.getfield 21, 3) := by decide +kernel
theorem dX2_has_28 : decode cX2_has 28 = .ok (.getfield 108, 3) := by decide +kernel
theorem dX2_has_31 : decode cX2_has 31 = .ok (.if_icmp .ge 36, 3) := by decide +kernel
theorem dX2_has_34 : decode cX2_has 34 = .ok (.aload 4, 2) := by decide +kernel
theorem dX2_has_36 : decode cX2_has 36 = .ok (.iload 5, 2) := by decide +kernel
theorem dX2_has_38 : decode cX2_has 38 = .ok (.invokevirtual 111, 3) := by decide +kernel
theorem dX2_has_41 : decode cX2_has 41 = .ok (.ifCond .eq 20, 3) := by decide +kernel
theorem dX2_has_44 : decode cX2_has 44 = .ok (.aload_n 0, 1) := by decide +kernel
theorem dX2_has_45 : decode cX2_has 45 = .ok (.getfield 21, 3) := by decide +kernel
theorem dX2_has_48 : decode cX2_has 48 = .ok (.iload 5, 2) := by decide +kernel
theorem dX2_has_50 : decode cX2_has 50 = .ok (.iload_n 2, 1) := by decide +kernel
theorem dX2_has_51 : decode cX2_has 51 = .ok (.iload_n 3, 1) := by decide +kernel
theorem dX2_has_52 : decode cX2_has 52 = .ok (.iconst (-1), 1) := by decide +kernel
theorem dX2_has_53 : decode cX2_has 53 = .ok (.invokevirtual 115, 3) := by decide +kernel
theorem dX2_has_56 : decode cX2_has 56 = .ok (.ifCond .eq 5, 3) := by decide +kernel
theorem dX2_has_59 : decode cX2_has 59 = .ok (.iconst 1, 1) := by decide +kernel
theorem dX2_has_60 : decode cX2_has 60 = .ok (.ireturn, 1) := by decide +kernel
theorem dX2_has_61 : decode cX2_has 61 = .ok (.iinc 5 1, 3) := by decide +kernel
theorem dX2_has_64 : decode cX2_has 64 = .ok (.goto (-42), 3) := by decide +kernel
theorem dX2_has_67 : decode cX2_has 67 = .ok (.iconst 0, 1) := by decide +kernel
theorem dX2_has_68 : decode cX2_has 68 = .ok (.ireturn, 1) := by decide +kernel
set_option maxRecDepth 20000 in
theorem ggX2_values_X2_replicaAt : GoodIn wsX2_values wsX2_replicaAt := goodIn_ca (goodIn_r _ [5, 6, 7, 8, 38, 39, 40, 41, 42, 43] (by decide +kernel) (by decide +kernel)) (goodIn_sub (fun _ h => List.mem_cons_of_mem _ (List.mem_append_right _ h)) (by decide +kernel))
set_option maxRecDepth 20000 in
theorem gX2_values_X2_replicaAt : GoodIn wsX2_values (wsV RX2 38 RX2 yX2_replicaAt wsX2_replicaAt) := goodIn_app (goodIn_of _ (by decide +kernel)) ggX2_values_X2_replicaAt
set_option maxRecDepth 20000 in
theorem ggX2_values_X2_requireIndex : GoodIn wsX2_values wsX2_requireIndex := goodIn_ca (goodIn_r _ [11, 6, 7] (by decide +kernel) (by decide +kernel)) (goodIn_sub (fun _ h => List.mem_cons_of_mem _ (List.mem_append_right _ h)) (by decide +kernel))
set_option maxRecDepth 20000 in
theorem gX2_values_X2_requireIndex : GoodIn wsX2_values (va_wsS RX2 42 yX2_requireIndex wsX2_requireIndex) := goodIn_app (goodIn_of _ (by decide +kernel)) ggX2_values_X2_requireIndex
set_option maxRecDepth 20000 in
theorem ggX2_values_X2_orderValues : GoodIn wsX2_values wsX2_orderValues := goodIn_r _ [15, 16, 17, 18, 19, 20, 21, 22, 23, 24, 25, 26, 27, 28, 29, 30, 31, 32, 33, 34, 35, 4, 36, 37, 38, 39, 40, 41, 42, 43, 44, 45, 46, 47, 48, 49, 50, 51, 52, 53, 54, 55] (by decide +kernel) (by decide +kernel)
set_option maxRecDepth 20000 in
theorem gX2_values_X2_orderValues : GoodIn wsX2_values (wsV RX2 119 RX2 yX2_orderValues wsX2_orderValues) := goodIn_app (goodIn_of _ (by decide +kernel)) ggX2_values_X2_orderValues
theorem dX2_values_0 : decode cX2_values 0 = .ok (.aload_n 0, 1) := by decide +kernel
theorem dX2_values_1 : decode cX2_values 1 = .ok (.iload_n 1, 1) := by decide +kernel
theorem dX2_values_2 : decode cX2_values 2 = .ok (.invokevirtual 38, 3) := by decide +kernel
theorem dX2_values_5 : decode cX2_values 5 = .ok (.astore_n 3, 1) := by decide +kernel
theorem dX2_values_6 : decode cX2_values 6 = .ok (.iload_n 2, 1) := by decide +kernel
theorem dX2_values_7 : decode cX2_values 7 = .ok (.bipush 16, 2) := by decide +kernel
theorem dX2_values_9 : decode cX2_values 9 = .ok (.invokestatic 42, 3) := by decide +kernel
theorem dX2_values_12 : decode cX2_values 12 = .ok (.aload_n 0, 1) := by decide +kernel
theorem dX2_values_13 : decode cX2_values 13 = .ok (.aload_n 3, 1) := by decide +kernel
theorem dX2_values_14 : decode cX2_values 14 = .ok (.iload_n 2, 1) := by decide +kernel
theorem dX2_values_15 : decode cX2_values 15 = .ok (.invokevirtual 119, 3) := by decide +kernel
theorem dX2_values_18 : decode cX2_values 18 = .ok (.ireturn, 1) := by decide +kernel
set_option maxRecDepth 20000 in
theorem ggX2_value_X2_replicaAt : GoodIn wsX2_value wsX2_replicaAt := goodIn_ca (goodIn_r _ [6, 7, 8, 9, 38, 39, 40, 41, 42, 43] (by decide +kernel) (by decide +kernel)) (goodIn_sub (fun _ h => List.mem_cons_of_mem _ (List.mem_append_right _ h)) (by decide +kernel))
set_option maxRecDepth 20000 in
theorem gX2_value_X2_replicaAt : GoodIn wsX2_value (wsV RX2 38 RX2 yX2_replicaAt wsX2_replicaAt) := goodIn_app (goodIn_of _ (by decide +kernel)) ggX2_value_X2_replicaAt
set_option maxRecDepth 20000 in
theorem ggX2_value_X2_requireIndex : GoodIn wsX2_value wsX2_requireIndex := goodIn_ca (goodIn_r _ [12, 7, 8] (by decide +kernel) (by decide +kernel)) (goodIn_sub (fun _ h => List.mem_cons_of_mem _ (List.mem_append_right _ h)) (by decide +kernel))
set_option maxRecDepth 20000 in
theorem gX2_value_X2_requireIndex : GoodIn wsX2_value (va_wsS RX2 42 yX2_requireIndex wsX2_requireIndex) := goodIn_app (goodIn_of _ (by decide +kernel)) ggX2_value_X2_requireIndex
set_option maxRecDepth 20000 in
theorem ggX2_value_X2_orderValues : GoodIn wsX2_value wsX2_orderValues := goodIn_r _ [16, 17, 18, 19, 20, 21, 22, 23, 24, 25, 26, 27, 28, 29, 30, 31, 32, 33, 34, 35, 36, 5, 37, 1, 38, 39, 40, 41, 42, 43, 44, 45, 46, 47, 48, 49, 50, 51, 52, 53, 54, 55] (by decide +kernel) (by decide +kernel)
set_option maxRecDepth 20000 in
theorem gX2_value_X2_orderValues : GoodIn wsX2_value (wsV RX2 119 RX2 yX2_orderValues wsX2_orderValues) := goodIn_app (goodIn_of _ (by decide +kernel)) ggX2_value_X2_orderValues
theorem dX2_value_0 : decode cX2_value 0 = .ok (.aload_n 0, 1) := by decide +kernel
theorem dX2_value_1 : decode cX2_value 1 = .ok (.iload_n 1, 1) := by decide +kernel
theorem dX2_value_2 : decode cX2_value 2 = .ok (.invokevirtual 38, 3) := by decide +kernel
theorem dX2_value_5 : decode cX2_value 5 = .ok (.astore 4, 2) := by decide +kernel
theorem dX2_value_7 : decode cX2_value 7 = .ok (.iload_n 2, 1) := by decide +kernel
theorem dX2_value_8 : decode cX2_value 8 = .ok (.bipush 16, 2) := by decide +kernel
theorem dX2_value_10 : decode cX2_value 10 = .ok (.invokestatic 42, 3) := by decide +kernel
theorem dX2_value_13 : decode cX2_value 13 = .ok (.iload_n 3, 1) := by decide +kernel
theorem dX2_value_14 : decode cX2_value 14 = .ok (.aload_n 0, 1) := by decide +kernel
theorem dX2_value_15 : decode cX2_value 15 = .ok (.aload 4, 2) := by decide +kernel
theorem dX2_value_17 : decode cX2_value 17 = .ok (.iload_n 2, 1) := by decide +kernel
theorem dX2_value_18 : decode cX2_value 18 = .ok (.invokevirtual 119, 3) := by decide +kernel
theorem dX2_value_21 : decode cX2_value 21 = .ok (.invokestatic 42, 3) := by decide +kernel
theorem dX2_value_24 : decode cX2_value 24 = .ok (.aload_n 0, 1) := by decide +kernel
theorem dX2_value_25 : decode cX2_value 25 = .ok (.getfield 30, 3) := by decide +kernel
theorem dX2_value_28 : decode cX2_value 28 = .ok (.iload_n 3, 1) := by decide +kernel
theorem dX2_value_29 : decode cX2_value 29 = .ok (.laload, 1) := by decide +kernel
theorem dX2_value_30 : decode cX2_value 30 = .ok (.lreturn, 1) := by decide +kernel
set_option maxRecDepth 20000 in
theorem ggX2_sum_X2_replicaAt : GoodIn wsX2_sum wsX2_replicaAt := goodIn_ca (goodIn_r _ [8, 9, 10, 11, 29, 30, 31, 32, 33, 34] (by decide +kernel) (by decide +kernel)) (goodIn_sub (fun _ h => List.mem_cons_of_mem _ (List.mem_append_right _ h)) (by decide +kernel))
set_option maxRecDepth 20000 in
theorem gX2_sum_X2_replicaAt : GoodIn wsX2_sum (wsV RX2 38 RX2 yX2_replicaAt wsX2_replicaAt) := goodIn_app (goodIn_of _ (by decide +kernel)) ggX2_sum_X2_replicaAt
set_option maxRecDepth 20000 in
theorem ggX2_sum_X2_requireIndex : GoodIn wsX2_sum wsX2_requireIndex := goodIn_ca (goodIn_r _ [14, 9, 10] (by decide +kernel) (by decide +kernel)) (goodIn_sub (fun _ h => List.mem_cons_of_mem _ (List.mem_append_right _ h)) (by decide +kernel))
set_option maxRecDepth 20000 in
theorem gX2_sum_X2_requireIndex : GoodIn wsX2_sum (va_wsS RX2 42 yX2_requireIndex wsX2_requireIndex) := goodIn_app (goodIn_of _ (by decide +kernel)) ggX2_sum_X2_requireIndex
set_option maxRecDepth 20000 in
theorem ggX2_sum_X1_isLive : GoodIn wsX2_sum wsX1_isLive := goodIn_r _ [19, 20, 42, 43, 44, 45, 46] (by decide +kernel) (by decide +kernel)
set_option maxRecDepth 20000 in
theorem gX2_sum_X1_isLive : GoodIn wsX2_sum (wsV RX2 111 RX1 yX1_isLive wsX1_isLive) := goodIn_app (goodIn_of _ (by decide +kernel)) ggX2_sum_X1_isLive
set_option maxRecDepth 20000 in
theorem ggX2_sum_X0_fits : GoodIn wsX2_sum wsX0_fits := goodIn_r _ [25, 26, 27, 28, 35, 36, 37, 38, 39, 40, 41] (by decide +kernel) (by decide +kernel)
set_option maxRecDepth 20000 in
theorem gX2_sum_X0_fits : GoodIn wsX2_sum (wsV RX2 115 RX0 yX0_fits wsX0_fits) := goodIn_app (goodIn_of _ (by decide +kernel)) ggX2_sum_X0_fits
theorem dX2_sum_0 : decode cX2_sum 0 = .ok (.aload_n 0, 1) := by decide +kernel
theorem dX2_sum_1 : decode cX2_sum 1 = .ok (.iload_n 1, 1) := by decide +kernel
theorem dX2_sum_2 : decode cX2_sum 2 = .ok (.invokevirtual 38, 3) := by decide +kernel
theorem dX2_sum_5 : decode cX2_sum 5 = .ok (.astore_n 3, 1) := by decide +kernel
theorem dX2_sum_6 : decode cX2_sum 6 = .ok (.iload_n 2, 1) := by decide +kernel
theorem dX2_sum_7 : decode cX2_sum 7 = .ok (.bipush 16, 2) := by decide +kernel
theorem dX2_sum_9 : decode cX2_sum 9 = .ok (.invokestatic 42, 3) := by decide +kernel
theorem dX2_sum_12 : decode cX2_sum 12 = .ok (.lconst 0, 1) := by decide +kernel
theorem dX2_sum_13 : decode cX2_sum 13 = .ok (.lstore 4, 2) := by decide +kernel
theorem dX2_sum_15 : decode cX2_sum 15 = .ok (.iconst 0, 1) := by decide +kernel
theorem dX2_sum_16 : decode cX2_sum 16 = .ok (.istore 6, 2) := by decide +kernel
theorem dX2_sum_18 : decode cX2_sum 18 = .ok (.iload 6, 2) := by decide +kernel
theorem dX2_sum_20 : decode cX2_sum 20 = .ok (.aload_n 0, 1) := by decide +kernel
theorem dX2_sum_21 : decode cX2_sum 21 = .ok (.getfield 21, 3) := by decide +kernel
theorem dX2_sum_24 : decode cX2_sum 24 = .ok (.getfield 108, 3) := by decide +kernel
theorem dX2_sum_27 : decode cX2_sum 27 = .ok (.if_icmp .ge 48, 3) := by decide +kernel
theorem dX2_sum_30 : decode cX2_sum 30 = .ok (.aload_n 3, 1) := by decide +kernel
theorem dX2_sum_31 : decode cX2_sum 31 = .ok (.iload 6, 2) := by decide +kernel
theorem dX2_sum_33 : decode cX2_sum 33 = .ok (.invokevirtual 111, 3) := by decide +kernel
theorem dX2_sum_36 : decode cX2_sum 36 = .ok (.ifCond .eq 33, 3) := by decide +kernel
theorem dX2_sum_39 : decode cX2_sum 39 = .ok (.aload_n 0, 1) := by decide +kernel
theorem dX2_sum_40 : decode cX2_sum 40 = .ok (.getfield 21, 3) := by decide +kernel
theorem dX2_sum_43 : decode cX2_sum 43 = .ok (.iload 6, 2) := by decide +kernel
theorem dX2_sum_45 : decode cX2_sum 45 = .ok (.iload_n 2, 1) := by decide +kernel
theorem dX2_sum_46 : decode cX2_sum 46 = .ok (.iconst (-1), 1) := by decide +kernel
theorem dX2_sum_47 : decode cX2_sum 47 = .ok (.iconst (-1), 1) := by decide +kernel
theorem dX2_sum_48 : decode cX2_sum 48 = .ok (.invokevirtual 115, 3) := by decide +kernel
theorem dX2_sum_51 : decode cX2_sum 51 = .ok (.ifCond .eq 18, 3) := by decide +kernel
theorem dX2_sum_54 : decode cX2_sum 54 = .ok (.lload 4, 2) := by decide +kernel
theorem dX2_sum_56 : decode cX2_sum 56 = .ok (.aload_n 0, 1) := by decide +kernel
theorem dX2_sum_57 : decode cX2_sum 57 = .ok (.getfield 21, 3) := by decide +kernel
theorem dX2_sum_60 : decode cX2_sum 60 = .ok (.getfield 123, 3) := by decide +kernel
theorem dX2_sum_63 : decode cX2_sum 63 = .ok (.iload 6, 2) := by decide +kernel
theorem dX2_sum_65 : decode cX2_sum 65 = .ok (.laload, 1) := by decide +kernel
theorem dX2_sum_66 : decode cX2_sum 66 = .ok (.ladd, 1) := by decide +kernel
theorem dX2_sum_67 : decode cX2_sum 67 = .ok (.lstore 4, 2) := by decide +kernel
theorem dX2_sum_69 : decode cX2_sum 69 = .ok (.iinc 6 1, 3) := by decide +kernel
theorem dX2_sum_72 : decode cX2_sum 72 = .ok (.goto (-54), 3) := by decide +kernel
theorem dX2_sum_75 : decode cX2_sum 75 = .ok (.lload 4, 2) := by decide +kernel
theorem dX2_sum_77 : decode cX2_sum 77 = .ok (.lreturn, 1) := by decide +kernel
set_option maxRecDepth 20000 in
theorem ggX2_keys_X2_replicaAt : GoodIn wsX2_keys wsX2_replicaAt := goodIn_ca (goodIn_r _ [8, 9, 10, 11, 18, 19, 20, 21, 22, 23] (by decide +kernel) (by decide +kernel)) (goodIn_sub (fun _ h => List.mem_cons_of_mem _ (List.mem_append_right _ h)) (by decide +kernel))
set_option maxRecDepth 20000 in
theorem gX2_keys_X2_replicaAt : GoodIn wsX2_keys (wsV RX2 38 RX2 yX2_replicaAt wsX2_replicaAt) := goodIn_app (goodIn_of _ (by decide +kernel)) ggX2_keys_X2_replicaAt
set_option maxRecDepth 20000 in
theorem ggX2_keys_X1_isLive : GoodIn wsX2_keys wsX1_isLive := goodIn_r _ [16, 17, 31, 32, 33, 34, 35] (by decide +kernel) (by decide +kernel)
set_option maxRecDepth 20000 in
theorem gX2_keys_X1_isLive : GoodIn wsX2_keys (wsV RX2 111 RX1 yX1_isLive wsX1_isLive) := goodIn_app (goodIn_of _ (by decide +kernel)) ggX2_keys_X1_isLive
theorem dX2_keys_0 : decode cX2_keys 0 = .ok (.aload_n 0, 1) := by decide +kernel
theorem dX2_keys_1 : decode cX2_keys 1 = .ok (.iload_n 1, 1) := by decide +kernel
theorem dX2_keys_2 : decode cX2_keys 2 = .ok (.invokevirtual 38, 3) := by decide +kernel
theorem dX2_keys_5 : decode cX2_keys 5 = .ok (.astore_n 2, 1) := by decide +kernel
theorem dX2_keys_6 : decode cX2_keys 6 = .ok (.iconst 0, 1) := by decide +kernel
theorem dX2_keys_7 : decode cX2_keys 7 = .ok (.istore_n 3, 1) := by decide +kernel
theorem dX2_keys_8 : decode cX2_keys 8 = .ok (.iconst 0, 1) := by decide +kernel
theorem dX2_keys_9 : decode cX2_keys 9 = .ok (.istore 4, 2) := by decide +kernel
theorem dX2_keys_11 : decode cX2_keys 11 = .ok (.iload 4, 2) := by decide +kernel
theorem dX2_keys_13 : decode cX2_keys 13 = .ok (.aload_n 0, 1) := by decide +kernel
theorem dX2_keys_14 : decode cX2_keys 14 = .ok (.getfield 21, 3) := by decide +kernel
theorem dX2_keys_17 : decode cX2_keys 17 = .ok (.getfield 108, 3) := by decide +kernel
theorem dX2_keys_20 : decode cX2_keys 20 = .ok (.if_icmp .ge 33, 3) := by decide +kernel
theorem dX2_keys_23 : decode cX2_keys 23 = .ok (.aload_n 2, 1) := by decide +kernel
theorem dX2_keys_24 : decode cX2_keys 24 = .ok (.iload 4, 2) := by decide +kernel
theorem dX2_keys_26 : decode cX2_keys 26 = .ok (.invokevirtual 111, 3) := by decide +kernel
theorem dX2_keys_29 : decode cX2_keys 29 = .ok (.ifCond .eq 18, 3) := by decide +kernel
theorem dX2_keys_32 : decode cX2_keys 32 = .ok (.iload_n 3, 1) := by decide +kernel
theorem dX2_keys_33 : decode cX2_keys 33 = .ok (.iconst 1, 1) := by decide +kernel
theorem dX2_keys_34 : decode cX2_keys 34 = .ok (.aload_n 0, 1) := by decide +kernel
theorem dX2_keys_35 : decode cX2_keys 35 = .ok (.getfield 21, 3) := by decide +kernel
theorem dX2_keys_38 : decode cX2_keys 38 = .ok (.getfield 126, 3) := by decide +kernel
theorem dX2_keys_41 : decode cX2_keys 41 = .ok (.iload 4, 2) := by decide +kernel
theorem dX2_keys_43 : decode cX2_keys 43 = .ok (.iaload, 1) := by decide +kernel
theorem dX2_keys_44 : decode cX2_keys 44 = .ok (.ishl, 1) := by decide +kernel
theorem dX2_keys_45 : decode cX2_keys 45 = .ok (.ior, 1) := by decide +kernel
theorem dX2_keys_46 : decode cX2_keys 46 = .ok (.istore_n 3, 1) := by decide +kernel
theorem dX2_keys_47 : decode cX2_keys 47 = .ok (.iinc 4 1, 3) := by decide +kernel
theorem dX2_keys_50 : decode cX2_keys 50 = .ok (.goto (-39), 3) := by decide +kernel
theorem dX2_keys_53 : decode cX2_keys 53 = .ok (.iload_n 3, 1) := by decide +kernel
theorem dX2_keys_54 : decode cX2_keys 54 = .ok (.ireturn, 1) := by decide +kernel
set_option maxRecDepth 20000 in
theorem ggX2_inTwice_X2_replicaAt : GoodIn wsX2_inTwice wsX2_replicaAt := goodIn_ca (goodIn_r _ [7, 8, 9, 10, 19, 20, 21, 22, 23, 24] (by decide +kernel) (by decide +kernel)) (goodIn_sub (fun _ h => List.mem_cons_of_mem _ (List.mem_append_right _ h)) (by decide +kernel))
set_option maxRecDepth 20000 in
theorem gX2_inTwice_X2_replicaAt : GoodIn wsX2_inTwice (wsV RX2 38 RX2 yX2_replicaAt wsX2_replicaAt) := goodIn_app (goodIn_of _ (by decide +kernel)) ggX2_inTwice_X2_replicaAt
set_option maxRecDepth 20000 in
theorem ggX2_inTwice_X2_requireIndex : GoodIn wsX2_inTwice wsX2_requireIndex := goodIn_ca (goodIn_r _ [13, 8, 9] (by decide +kernel) (by decide +kernel)) (goodIn_sub (fun _ h => List.mem_cons_of_mem _ (List.mem_append_right _ h)) (by decide +kernel))
set_option maxRecDepth 20000 in
theorem gX2_inTwice_X2_requireIndex : GoodIn wsX2_inTwice (va_wsS RX2 42 yX2_requireIndex wsX2_requireIndex) := goodIn_app (goodIn_of _ (by decide +kernel)) ggX2_inTwice_X2_requireIndex
theorem dX2_inTwice_0 : decode cX2_inTwice 0 = .ok (.aload_n 0, 1) := by decide +kernel
theorem dX2_inTwice_1 : decode cX2_inTwice 1 = .ok (.iload_n 1, 1) := by decide +kernel
theorem dX2_inTwice_2 : decode cX2_inTwice 2 = .ok (.invokevirtual 38, 3) := by decide +kernel
theorem dX2_inTwice_5 : decode cX2_inTwice 5 = .ok (.astore_n 3, 1) := by decide +kernel
theorem dX2_inTwice_6 : decode cX2_inTwice 6 = .ok (.iload_n 2, 1) := by decide +kernel
theorem dX2_inTwice_7 : decode cX2_inTwice 7 = .ok (.bipush 32, 2) := by decide +kernel
theorem dX2_inTwice_9 : decode cX2_inTwice 9 = .ok (.invokestatic 42, 3) := by decide +kernel
theorem dX2_inTwice_12 : decode cX2_inTwice 12 = .ok (.aload_n 3, 1) := by decide +kernel
theorem dX2_inTwice_13 : decode cX2_inTwice 13 = .ok (.getfield 76, 3) := by decide +kernel
theorem dX2_inTwice_16 : decode cX2_inTwice 16 = .ok (.aload_n 3, 1) := by decide +kernel
theorem dX2_inTwice_17 : decode cX2_inTwice 17 = .ok (.getfield 79, 3) := by decide +kernel
theorem dX2_inTwice_20 : decode cX2_inTwice 20 = .ok (.iconst (-1), 1) := by decide +kernel
theorem dX2_inTwice_21 : decode cX2_inTwice 21 = .ok (.ixor, 1) := by decide +kernel
theorem dX2_inTwice_22 : decode cX2_inTwice 22 = .ok (.iand, 1) := by decide +kernel
theorem dX2_inTwice_23 : decode cX2_inTwice 23 = .ok (.iload_n 2, 1) := by decide +kernel
theorem dX2_inTwice_24 : decode cX2_inTwice 24 = .ok (.iushr, 1) := by decide +kernel
theorem dX2_inTwice_25 : decode cX2_inTwice 25 = .ok (.iconst 1, 1) := by decide +kernel
theorem dX2_inTwice_26 : decode cX2_inTwice 26 = .ok (.iand, 1) := by decide +kernel
theorem dX2_inTwice_27 : decode cX2_inTwice 27 = .ok (.ireturn, 1) := by decide +kernel
set_option maxRecDepth 20000 in
theorem ggX2_inTimed_X2_replicaAt : GoodIn wsX2_inTimed wsX2_replicaAt := goodIn_ca (goodIn_r _ [6, 7, 8, 9, 30, 31, 32, 33, 34, 35] (by decide +kernel) (by decide +kernel)) (goodIn_sub (fun _ h => List.mem_cons_of_mem _ (List.mem_append_right _ h)) (by decide +kernel))
set_option maxRecDepth 20000 in
theorem gX2_inTimed_X2_replicaAt : GoodIn wsX2_inTimed (wsV RX2 38 RX2 yX2_replicaAt wsX2_replicaAt) := goodIn_app (goodIn_of _ (by decide +kernel)) ggX2_inTimed_X2_replicaAt
set_option maxRecDepth 20000 in
theorem ggX2_inTimed_X2_requireIndex : GoodIn wsX2_inTimed wsX2_requireIndex := goodIn_ca (goodIn_r _ [12, 7, 8] (by decide +kernel) (by decide +kernel)) (goodIn_sub (fun _ h => List.mem_cons_of_mem _ (List.mem_append_right _ h)) (by decide +kernel))
set_option maxRecDepth 20000 in
theorem gX2_inTimed_X2_requireIndex : GoodIn wsX2_inTimed (va_wsS RX2 42 yX2_requireIndex wsX2_requireIndex) := goodIn_app (goodIn_of _ (by decide +kernel)) ggX2_inTimed_X2_requireIndex
set_option maxRecDepth 20000 in
theorem ggX2_inTimed_X2_stampIsIn : GoodIn wsX2_inTimed wsX2_stampIsIn := goodIn_r _ [15] (by decide +kernel) (by decide +kernel)
set_option maxRecDepth 20000 in
theorem gX2_inTimed_X2_stampIsIn : GoodIn wsX2_inTimed (va_wsS RX2 129 yX2_stampIsIn wsX2_stampIsIn) := goodIn_app (goodIn_of _ (by decide +kernel)) ggX2_inTimed_X2_stampIsIn
set_option maxRecDepth 20000 in
theorem ggX2_inTimed_X2_bit : GoodIn wsX2_inTimed wsX2_bit := goodIn_r _ [18] (by decide +kernel) (by decide +kernel)
set_option maxRecDepth 20000 in
theorem gX2_inTimed_X2_bit : GoodIn wsX2_inTimed (va_wsS RX2 100 yX2_bit wsX2_bit) := goodIn_app (goodIn_of _ (by decide +kernel)) ggX2_inTimed_X2_bit
set_option maxRecDepth 20000 in
theorem ggX2_inTimed_X2_stampTime : GoodIn wsX2_inTimed wsX2_stampTime := goodIn_r _ [21] (by decide +kernel) (by decide +kernel)
set_option maxRecDepth 20000 in
theorem gX2_inTimed_X2_stampTime : GoodIn wsX2_inTimed (va_wsS RX2 132 yX2_stampTime wsX2_stampTime) := goodIn_app (goodIn_of _ (by decide +kernel)) ggX2_inTimed_X2_stampTime
set_option maxRecDepth 20000 in
theorem ggX2_inTimed_X2_stampReplica : GoodIn wsX2_inTimed wsX2_stampReplica := goodIn_r _ [24] (by decide +kernel) (by decide +kernel)
set_option maxRecDepth 20000 in
theorem gX2_inTimed_X2_stampReplica : GoodIn wsX2_inTimed (va_wsS RX2 136 yX2_stampReplica wsX2_stampReplica) := goodIn_app (goodIn_of _ (by decide +kernel)) ggX2_inTimed_X2_stampReplica
theorem dX2_inTimed_0 : decode cX2_inTimed 0 = .ok (.aload_n 0, 1) := by decide +kernel
theorem dX2_inTimed_1 : decode cX2_inTimed 1 = .ok (.iload_n 1, 1) := by decide +kernel
theorem dX2_inTimed_2 : decode cX2_inTimed 2 = .ok (.invokevirtual 38, 3) := by decide +kernel
theorem dX2_inTimed_5 : decode cX2_inTimed 5 = .ok (.astore 4, 2) := by decide +kernel
theorem dX2_inTimed_7 : decode cX2_inTimed 7 = .ok (.iload_n 2, 1) := by decide +kernel
theorem dX2_inTimed_8 : decode cX2_inTimed 8 = .ok (.bipush 32, 2) := by decide +kernel
theorem dX2_inTimed_10 : decode cX2_inTimed 10 = .ok (.invokestatic 42, 3) := by decide +kernel
theorem dX2_inTimed_13 : decode cX2_inTimed 13 = .ok (.iload_n 3, 1) := by decide +kernel
theorem dX2_inTimed_14 : decode cX2_inTimed 14 = .ok (.iconst 3, 1) := by decide +kernel
theorem dX2_inTimed_15 : decode cX2_inTimed 15 = .ok (.invokestatic 42, 3) := by decide +kernel
theorem dX2_inTimed_18 : decode cX2_inTimed 18 = .ok (.aload 4, 2) := by decide +kernel
theorem dX2_inTimed_20 : decode cX2_inTimed 20 = .ok (.getfield 85, 3) := by decide +kernel
theorem dX2_inTimed_23 : decode cX2_inTimed 23 = .ok (.iload_n 2, 1) := by decide +kernel
theorem dX2_inTimed_24 : decode cX2_inTimed 24 = .ok (.iaload, 1) := by decide +kernel
theorem dX2_inTimed_25 : decode cX2_inTimed 25 = .ok (.istore 5, 2) := by decide +kernel
theorem dX2_inTimed_27 : decode cX2_inTimed 27 = .ok (.iload_n 3, 1) := by decide +kernel
theorem dX2_inTimed_28 : decode cX2_inTimed 28 = .ok (.ifCond .ne 12, 3) := by decide +kernel
theorem dX2_inTimed_31 : decode cX2_inTimed 31 = .ok (.iload 5, 2) := by decide +kernel
theorem dX2_inTimed_33 : decode cX2_inTimed 33 = .ok (.invokestatic 129, 3) := by decide +kernel
theorem dX2_inTimed_36 : decode cX2_inTimed 36 = .ok (.invokestatic 100, 3) := by decide +kernel
theorem dX2_inTimed_39 : decode cX2_inTimed 39 = .ok (.ireturn, 1) := by decide +kernel
theorem dX2_inTimed_40 : decode cX2_inTimed 40 = .ok (.iload 5, 2) := by decide +kernel
theorem dX2_inTimed_42 : decode cX2_inTimed 42 = .ok (.ifCond .ne 5, 3) := by decide +kernel
theorem dX2_inTimed_45 : decode cX2_inTimed 45 = .ok (.iconst (-1), 1) := by decide +kernel
theorem dX2_inTimed_46 : decode cX2_inTimed 46 = .ok (.ireturn, 1) := by decide +kernel
theorem dX2_inTimed_47 : decode cX2_inTimed 47 = .ok (.iload_n 3, 1) := by decide +kernel
theorem dX2_inTimed_48 : decode cX2_inTimed 48 = .ok (.iconst 1, 1) := by decide +kernel
theorem dX2_inTimed_49 : decode cX2_inTimed 49 = .ok (.if_icmp .ne 11, 3) := by decide +kernel
theorem dX2_inTimed_52 : decode cX2_inTimed 52 = .ok (.iload 5, 2) := by decide +kernel
theorem dX2_inTimed_54 : decode cX2_inTimed 54 = .ok (.invokestatic 132, 3) := by decide +kernel
theorem dX2_inTimed_57 : decode cX2_inTimed 57 = .ok (.goto 8, 3) := by decide +kernel
theorem dX2_inTimed_60 : decode cX2_inTimed 60 = .ok (.iload 5, 2) := by decide +kernel
theorem dX2_inTimed_62 : decode cX2_inTimed 62 = .ok (.invokestatic 136, 3) := by decide +kernel
theorem dX2_inTimed_65 : decode cX2_inTimed 65 = .ok (.ireturn, 1) := by decide +kernel
set_option maxRecDepth 20000 in
theorem ggX2_seen_X2_replicaAt : GoodIn wsX2_seen wsX2_replicaAt := goodIn_ca (goodIn_r _ [9, 10, 11, 12, 22, 23, 24, 25, 26, 27] (by decide +kernel) (by decide +kernel)) (goodIn_sub (fun _ h => List.mem_cons_of_mem _ (List.mem_append_right _ h)) (by decide +kernel))
set_option maxRecDepth 20000 in
theorem gX2_seen_X2_replicaAt : GoodIn wsX2_seen (wsV RX2 38 RX2 yX2_replicaAt wsX2_replicaAt) := goodIn_app (goodIn_of _ (by decide +kernel)) ggX2_seen_X2_replicaAt
set_option maxRecDepth 20000 in
theorem ggX2_seen_X2_requireIndex : GoodIn wsX2_seen wsX2_requireIndex := goodIn_ca (goodIn_r _ [15, 10, 11] (by decide +kernel) (by decide +kernel)) (goodIn_sub (fun _ h => List.mem_cons_of_mem _ (List.mem_append_right _ h)) (by decide +kernel))
set_option maxRecDepth 20000 in
theorem gX2_seen_X2_requireIndex : GoodIn wsX2_seen (va_wsS RX2 42 yX2_requireIndex wsX2_requireIndex) := goodIn_app (goodIn_of _ (by decide +kernel)) ggX2_seen_X2_requireIndex
set_option maxRecDepth 20000 in
theorem ggX2_seen_X1_isSeen : GoodIn wsX2_seen wsX1_isSeen := goodIn_r _ [20, 21, 35, 36, 37, 38, 39] (by decide +kernel) (by decide +kernel)
set_option maxRecDepth 20000 in
theorem gX2_seen_X1_isSeen : GoodIn wsX2_seen (wsV RX2 142 RX1 yX1_isSeen wsX1_isSeen) := goodIn_app (goodIn_of _ (by decide +kernel)) ggX2_seen_X1_isSeen
theorem dX2_seen_0 : decode cX2_seen 0 = .ok (.aload_n 0, 1) := by decide +kernel
theorem dX2_seen_1 : decode cX2_seen 1 = .ok (.iload_n 1, 1) := by decide +kernel
theorem dX2_seen_2 : decode cX2_seen 2 = .ok (.invokevirtual 38, 3) := by decide +kernel
theorem dX2_seen_5 : decode cX2_seen 5 = .ok (.astore 4, 2) := by decide +kernel
theorem dX2_seen_7 : decode cX2_seen 7 = .ok (.iload_n 2, 1) := by decide +kernel
theorem dX2_seen_8 : decode cX2_seen 8 = .ok (.bipush 6, 2) := by decide +kernel
theorem dX2_seen_10 : decode cX2_seen 10 = .ok (.invokestatic 42, 3) := by decide +kernel
theorem dX2_seen_13 : decode cX2_seen 13 = .ok (.iload_n 3, 1) := by decide +kernel
theorem dX2_seen_14 : decode cX2_seen 14 = .ok (.iconst 3, 1) := by decide +kernel
theorem dX2_seen_15 : decode cX2_seen 15 = .ok (.invokestatic 42, 3) := by decide +kernel
theorem dX2_seen_18 : decode cX2_seen 18 = .ok (.iconst 0, 1) := by decide +kernel
theorem dX2_seen_19 : decode cX2_seen 19 = .ok (.istore 5, 2) := by decide +kernel
theorem dX2_seen_21 : decode cX2_seen 21 = .ok (.iconst 0, 1) := by decide +kernel
theorem dX2_seen_22 : decode cX2_seen 22 = .ok (.istore 6, 2) := by decide +kernel
theorem dX2_seen_24 : decode cX2_seen 24 = .ok (.iconst 0, 1) := by decide +kernel
theorem dX2_seen_25 : decode cX2_seen 25 = .ok (.istore 7, 2) := by decide +kernel
theorem dX2_seen_27 : decode cX2_seen 27 = .ok (.iconst 0, 1) := by decide +kernel
theorem dX2_seen_28 : decode cX2_seen 28 = .ok (.istore 8, 2) := by decide +kernel
theorem dX2_seen_30 : decode cX2_seen 30 = .ok (.iload 8, 2) := by decide +kernel
theorem dX2_seen_32 : decode cX2_seen 32 = .ok (.aload_n 0, 1) := by decide +kernel
theorem dX2_seen_33 : decode cX2_seen 33 = .ok (.getfield 21, 3) := by decide +kernel
theorem dX2_seen_36 : decode cX2_seen 36 = .ok (.getfield 108, 3) := by decide +kernel
theorem dX2_seen_39 : decode cX2_seen 39 = .ok (.if_icmp .ge 61, 3) := by decide +kernel
theorem dX2_seen_42 : decode cX2_seen 42 = .ok (.aload_n 0, 1) := by decide +kernel
theorem dX2_seen_43 : decode cX2_seen 43 = .ok (.getfield 21, 3) := by decide +kernel
theorem dX2_seen_46 : decode cX2_seen 46 = .ok (.getfield 139, 3) := by decide +kernel
theorem dX2_seen_49 : decode cX2_seen 49 = .ok (.iload 8, 2) := by decide +kernel
theorem dX2_seen_51 : decode cX2_seen 51 = .ok (.iaload, 1) := by decide +kernel
theorem dX2_seen_52 : decode cX2_seen 52 = .ok (.iload_n 2, 1) := by decide +kernel
theorem dX2_seen_53 : decode cX2_seen 53 = .ok (.if_icmp .ne 41, 3) := by decide +kernel
theorem dX2_seen_56 : decode cX2_seen 56 = .ok (.aload 4, 2) := by decide +kernel
theorem dX2_seen_58 : decode cX2_seen 58 = .ok (.iload 8, 2) := by decide +kernel
theorem dX2_seen_60 : decode cX2_seen 60 = .ok (.invokevirtual 142, 3) := by decide +kernel
theorem dX2_seen_63 : decode cX2_seen 63 = .ok (.ifCond .eq 31, 3) := by decide +kernel
theorem dX2_seen_66 : decode cX2_seen 66 = .ok (.iinc 6 1, 3) := by decide +kernel
theorem dX2_seen_69 : decode cX2_seen 69 = .ok (.aload_n 0, 1) := by decide +kernel
theorem dX2_seen_70 : decode cX2_seen 70 = .ok (.getfield 21, 3) := by decide +kernel
theorem dX2_seen_73 : decode cX2_seen 73 = .ok (.getfield 145, 3) := by decide +kernel
theorem dX2_seen_76 : decode cX2_seen 76 = .ok (.iload 8, 2) := by decide +kernel
theorem dX2_seen_78 : decode cX2_seen 78 = .ok (.iaload, 1) := by decide +kernel
theorem dX2_seen_79 : decode cX2_seen 79 = .ok (.istore 7, 2) := by decide +kernel
theorem dX2_seen_81 : decode cX2_seen 81 = .ok (.iload 7, 2) := by decide +kernel
theorem dX2_seen_83 : decode cX2_seen 83 = .ok (.iload 5, 2) := by decide +kernel
theorem dX2_seen_85 : decode cX2_seen 85 = .ok (.iconst 1, 1) := by decide +kernel
theorem dX2_seen_86 : decode cX2_seen 86 = .ok (.iadd, 1) := by decide +kernel
theorem dX2_seen_87 : decode cX2_seen 87 = .ok (.if_icmp .ne 7, 3) := by decide +kernel
theorem dX2_seen_90 : decode cX2_seen 90 = .ok (.iload 7, 2) := by decide +kernel
theorem dX2_seen_92 : decode cX2_seen 92 = .ok (.istore 5, 2) := by decide +kernel
theorem dX2_seen_94 : decode cX2_seen 94 = .ok (.iinc 8 1, 3) := by decide +kernel
theorem dX2_seen_97 : decode cX2_seen 97 = .ok (.goto (-67), 3) := by decide +kernel
theorem dX2_seen_100 : decode cX2_seen 100 = .ok (.iload_n 3, 1) := by decide +kernel
theorem dX2_seen_101 : decode cX2_seen 101 = .ok (.ifCond .ne 6, 3) := by decide +kernel
theorem dX2_seen_104 : decode cX2_seen 104 = .ok (.iload 5, 2) := by decide +kernel
theorem dX2_seen_106 : decode cX2_seen 106 = .ok (.ireturn, 1) := by decide +kernel
theorem dX2_seen_107 : decode cX2_seen 107 = .ok (.iload_n 3, 1) := by decide +kernel
theorem dX2_seen_108 : decode cX2_seen 108 = .ok (.iconst 1, 1) := by decide +kernel
theorem dX2_seen_109 : decode cX2_seen 109 = .ok (.if_icmp .ne 8, 3) := by decide +kernel
theorem dX2_seen_112 : decode cX2_seen 112 = .ok (.iload 6, 2) := by decide +kernel
theorem dX2_seen_114 : decode cX2_seen 114 = .ok (.goto 5, 3) := by decide +kernel
theorem dX2_seen_117 : decode cX2_seen 117 = .ok (.iload 7, 2) := by decide +kernel
theorem dX2_seen_119 : decode cX2_seen 119 = .ok (.ireturn, 1) := by decide +kernel
set_option maxRecDepth 20000 in
theorem ggX2_size_X2_deltaAt : GoodIn wsX2_size wsX2_deltaAt := goodIn_ca (goodIn_r _ [7, 8, 9, 10, 34, 35, 36, 37, 38, 39] (by decide +kernel) (by decide +kernel)) (goodIn_sub (fun _ h => List.mem_cons_of_mem _ (List.mem_append_right _ h)) (by decide +kernel))
set_option maxRecDepth 20000 in
theorem gX2_size_X2_deltaAt : GoodIn wsX2_size (wsV RX2 93 RX2 yX2_deltaAt wsX2_deltaAt) := goodIn_app (goodIn_of _ (by decide +kernel)) ggX2_size_X2_deltaAt
set_option maxRecDepth 20000 in
theorem ggX2_size_X2_replicaAt : GoodIn wsX2_size wsX2_replicaAt := goodIn_ca (goodIn_r _ [14, 8, 9, 15, 34, 35, 36, 37, 38, 39] (by decide +kernel) (by decide +kernel)) (goodIn_sub (fun _ h => List.mem_cons_of_mem _ (List.mem_append_right _ h)) (by decide +kernel))
set_option maxRecDepth 20000 in
theorem gX2_size_X2_replicaAt : GoodIn wsX2_size (wsV RX2 38 RX2 yX2_replicaAt wsX2_replicaAt) := goodIn_app (goodIn_of _ (by decide +kernel)) ggX2_size_X2_replicaAt
set_option maxRecDepth 20000 in
theorem ggX2_size_X2_requireIndex : GoodIn wsX2_size wsX2_requireIndex := goodIn_ca (goodIn_r _ [18, 8, 9] (by decide +kernel) (by decide +kernel)) (goodIn_sub (fun _ h => List.mem_cons_of_mem _ (List.mem_append_right _ h)) (by decide +kernel))
set_option maxRecDepth 20000 in
theorem gX2_size_X2_requireIndex : GoodIn wsX2_size (va_wsS RX2 42 yX2_requireIndex wsX2_requireIndex) := goodIn_app (goodIn_of _ (by decide +kernel)) ggX2_size_X2_requireIndex
set_option maxRecDepth 20000 in
theorem ggX2_size_X2_bitsIn : GoodIn wsX2_size wsX2_bitsIn := goodIn_r _ [21, 22, 23, 24, 25, 26, 27, 28] (by decide +kernel) (by decide +kernel)
set_option maxRecDepth 20000 in
theorem gX2_size_X2_bitsIn : GoodIn wsX2_size (va_wsS RX2 151 yX2_bitsIn wsX2_bitsIn) := goodIn_app (goodIn_of _ (by decide +kernel)) ggX2_size_X2_bitsIn
theorem dX2_size_0 : decode cX2_size 0 = .ok (.iload_n 1, 1) := by decide +kernel
theorem dX2_size_1 : decode cX2_size 1 = .ok (.iconst (-1), 1) := by decide +kernel
theorem dX2_size_2 : decode cX2_size 2 = .ok (.if_icmp .ge 14, 3) := by decide +kernel
theorem dX2_size_5 : decode cX2_size 5 = .ok (.aload_n 0, 1) := by decide +kernel
theorem dX2_size_6 : decode cX2_size 6 = .ok (.bipush (-2), 2) := by decide +kernel
theorem dX2_size_8 : decode cX2_size 8 = .ok (.iload_n 1, 1) := by decide +kernel
theorem dX2_size_9 : decode cX2_size 9 = .ok (.isub, 1) := by decide +kernel
theorem dX2_size_10 : decode cX2_size 10 = .ok (.invokevirtual 93, 3) := by decide +kernel
theorem dX2_size_13 : decode cX2_size 13 = .ok (.goto 8, 3) := by decide +kernel
theorem dX2_size_16 : decode cX2_size 16 = .ok (.aload_n 0, 1) := by decide +kernel
theorem dX2_size_17 : decode cX2_size 17 = .ok (.iload_n 1, 1) := by decide +kernel
theorem dX2_size_18 : decode cX2_size 18 = .ok (.invokevirtual 38, 3) := by decide +kernel
theorem dX2_size_21 : decode cX2_size 21 = .ok (.astore_n 3, 1) := by decide +kernel
theorem dX2_size_22 : decode cX2_size 22 = .ok (.iload_n 2, 1) := by decide +kernel
theorem dX2_size_23 : decode cX2_size 23 = .ok (.iconst 2, 1) := by decide +kernel
theorem dX2_size_24 : decode cX2_size 24 = .ok (.invokestatic 42, 3) := by decide +kernel
theorem dX2_size_27 : decode cX2_size 27 = .ok (.iload_n 2, 1) := by decide +kernel
theorem dX2_size_28 : decode cX2_size 28 = .ok (.ifCond .ne 13, 3) := by decide +kernel
theorem dX2_size_31 : decode cX2_size 31 = .ok (.aload_n 3, 1) := by decide +kernel
theorem dX2_size_32 : decode cX2_size 32 = .ok (.getfield 148, 3) := by decide +kernel
theorem dX2_size_35 : decode cX2_size 35 = .ok (.invokestatic 151, 3) := by decide +kernel
theorem dX2_size_38 : decode cX2_size 38 = .ok (.goto 10, 3) := by decide +kernel
theorem dX2_size_41 : decode cX2_size 41 = .ok (.aload_n 3, 1) := by decide +kernel
theorem dX2_size_42 : decode cX2_size 42 = .ok (.getfield 155, 3) := by decide +kernel
theorem dX2_size_45 : decode cX2_size 45 = .ok (.invokestatic 151, 3) := by decide +kernel
theorem dX2_size_48 : decode cX2_size 48 = .ok (.ireturn, 1) := by decide +kernel
set_option maxRecDepth 20000 in
theorem ggX2_same_X2_replicaAt : GoodIn wsX2_same wsX2_replicaAt := goodIn_ca (goodIn_r _ [5, 6, 7, 8, 22, 23, 24, 25, 26, 27] (by decide +kernel) (by decide +kernel)) (goodIn_sub (fun _ h => List.mem_cons_of_mem _ (List.mem_append_right _ h)) (by decide +kernel))
set_option maxRecDepth 20000 in
theorem gX2_same_X2_replicaAt : GoodIn wsX2_same (wsV RX2 38 RX2 yX2_replicaAt wsX2_replicaAt) := goodIn_app (goodIn_of _ (by decide +kernel)) ggX2_same_X2_replicaAt
set_option maxRecDepth 20000 in
theorem ggX2_same_X1_isLike : GoodIn wsX2_same wsX1_isLike := goodIn_r _ [13, 14, 15, 16, 17, 18, 28, 29, 30, 31, 32] (by decide +kernel) (by decide +kernel)
set_option maxRecDepth 20000 in
theorem gX2_same_X1_isLike : GoodIn wsX2_same (wsV RX2 158 RX1 yX1_isLike wsX1_isLike) := goodIn_app (goodIn_of _ (by decide +kernel)) ggX2_same_X1_isLike
set_option maxRecDepth 20000 in
theorem ggX2_same_X2_bit : GoodIn wsX2_same wsX2_bit := goodIn_r _ [21] (by decide +kernel) (by decide +kernel)
set_option maxRecDepth 20000 in
theorem gX2_same_X2_bit : GoodIn wsX2_same (va_wsS RX2 100 yX2_bit wsX2_bit) := goodIn_app (goodIn_of _ (by decide +kernel)) ggX2_same_X2_bit
theorem dX2_same_0 : decode cX2_same 0 = .ok (.aload_n 0, 1) := by decide +kernel
theorem dX2_same_1 : decode cX2_same 1 = .ok (.iload_n 1, 1) := by decide +kernel
theorem dX2_same_2 : decode cX2_same 2 = .ok (.invokevirtual 38, 3) := by decide +kernel
theorem dX2_same_5 : decode cX2_same 5 = .ok (.astore_n 3, 1) := by decide +kernel
theorem dX2_same_6 : decode cX2_same 6 = .ok (.aload_n 3, 1) := by decide +kernel
theorem dX2_same_7 : decode cX2_same 7 = .ok (.aload_n 0, 1) := by decide +kernel
theorem dX2_same_8 : decode cX2_same 8 = .ok (.iload_n 2, 1) := by decide +kernel
theorem dX2_same_9 : decode cX2_same 9 = .ok (.invokevirtual 38, 3) := by decide +kernel
theorem dX2_same_12 : decode cX2_same 12 = .ok (.invokevirtual 158, 3) := by decide +kernel
theorem dX2_same_15 : decode cX2_same 15 = .ok (.invokestatic 100, 3) := by decide +kernel
theorem dX2_same_18 : decode cX2_same 18 = .ok (.ireturn, 1) := by decide +kernel
set_option maxRecDepth 20000 in
theorem ggX2_below_X2_replicaAt : GoodIn wsX2_below wsX2_replicaAt := goodIn_ca (goodIn_r _ [6, 7, 8, 9, 44, 45, 46, 47, 48, 49] (by decide +kernel) (by decide +kernel)) (goodIn_sub (fun _ h => List.mem_cons_of_mem _ (List.mem_append_right _ h)) (by decide +kernel))
set_option maxRecDepth 20000 in
theorem gX2_below_X2_replicaAt : GoodIn wsX2_below (wsV RX2 38 RX2 yX2_replicaAt wsX2_replicaAt) := goodIn_app (goodIn_of _ (by decide +kernel)) ggX2_below_X2_replicaAt
set_option maxRecDepth 20000 in
theorem ggX2_below_X1_become : GoodIn wsX2_below wsX1_become := goodIn_r _ [14, 15, 16, 17, 18, 19, 20, 21, 22, 23, 50, 51, 52, 53, 54] (by decide +kernel) (by decide +kernel)
set_option maxRecDepth 20000 in
theorem gX2_below_X1_become : GoodIn wsX2_below (wsV RX2 104 RX1 yX1_become wsX1_become) := goodIn_app (goodIn_of _ (by decide +kernel)) ggX2_below_X1_become
set_option maxRecDepth 20000 in
theorem ggX2_below_X1_take : GoodIn wsX2_below wsX1_take := goodIn_r _ [27, 28, 29, 30, 13, 31, 20, 15, 32, 33, 34, 35, 36, 22, 23, 37, 38, 39, 40, 21, 50, 51, 52, 53, 54] (by decide +kernel) (by decide +kernel)
set_option maxRecDepth 20000 in
theorem gX2_below_X1_take : GoodIn wsX2_below (wsV RX2 96 RX1 yX1_take wsX1_take) := goodIn_app (goodIn_of _ (by decide +kernel)) ggX2_below_X1_take
set_option maxRecDepth 20000 in
theorem ggX2_below_X2_bit : GoodIn wsX2_below wsX2_bit := goodIn_r _ [43] (by decide +kernel) (by decide +kernel)
set_option maxRecDepth 20000 in
theorem gX2_below_X2_bit : GoodIn wsX2_below (va_wsS RX2 100 yX2_bit wsX2_bit) := goodIn_app (goodIn_of _ (by decide +kernel)) ggX2_below_X2_bit
theorem dX2_below_0 : decode cX2_below 0 = .ok (.aload_n 0, 1) := by decide +kernel
theorem dX2_below_1 : decode cX2_below 1 = .ok (.iload_n 1, 1) := by decide +kernel
theorem dX2_below_2 : decode cX2_below 2 = .ok (.invokevirtual 38, 3) := by decide +kernel
theorem dX2_below_5 : decode cX2_below 5 = .ok (.astore_n 3, 1) := by decide +kernel
theorem dX2_below_6 : decode cX2_below 6 = .ok (.aload_n 0, 1) := by decide +kernel
theorem dX2_below_7 : decode cX2_below 7 = .ok (.getfield 26, 3) := by decide +kernel
theorem dX2_below_10 : decode cX2_below 10 = .ok (.aload_n 0, 1) := by decide +kernel
theorem dX2_below_11 : decode cX2_below 11 = .ok (.iload_n 2, 1) := by decide +kernel
theorem dX2_below_12 : decode cX2_below 12 = .ok (.invokevirtual 38, 3) := by decide +kernel
theorem dX2_below_15 : decode cX2_below 15 = .ok (.invokevirtual 104, 3) := by decide +kernel
theorem dX2_below_18 : decode cX2_below 18 = .ok (.aload_n 0, 1) := by decide +kernel
theorem dX2_below_19 : decode cX2_below 19 = .ok (.getfield 26, 3) := by decide +kernel
theorem dX2_below_22 : decode cX2_below 22 = .ok (.aload_n 3, 1) := by decide +kernel
theorem dX2_below_23 : decode cX2_below 23 = .ok (.invokevirtual 96, 3) := by decide +kernel
theorem dX2_below_26 : decode cX2_below 26 = .ok (.ifCond .ne 7, 3) := by decide +kernel
theorem dX2_below_29 : decode cX2_below 29 = .ok (.iconst 1, 1) := by decide +kernel
theorem dX2_below_30 : decode cX2_below 30 = .ok (.goto 4, 3) := by decide +kernel
theorem dX2_below_33 : decode cX2_below 33 = .ok (.iconst 0, 1) := by decide +kernel
theorem dX2_below_34 : decode cX2_below 34 = .ok (.invokestatic 100, 3) := by decide +kernel
theorem dX2_below_37 : decode cX2_below 37 = .ok (.ireturn, 1) := by decide +kernel
theorem dX2_replicaAt_0 : decode cX2_replicaAt 0 = .ok (.iload_n 1, 1) := by decide +kernel
theorem dX2_replicaAt_1 : decode cX2_replicaAt 1 = .ok (.ifCond .lt 21, 3) := by decide +kernel
theorem dX2_replicaAt_4 : decode cX2_replicaAt 4 = .ok (.iload_n 1, 1) := by decide +kernel
theorem dX2_replicaAt_5 : decode cX2_replicaAt 5 = .ok (.aload_n 0, 1) := by decide +kernel
theorem dX2_replicaAt_6 : decode cX2_replicaAt 6 = .ok (.getfield 11, 3) := by decide +kernel
theorem dX2_replicaAt_9 : decode cX2_replicaAt 9 = .ok (.arraylength, 1) := by decide +kernel
theorem dX2_replicaAt_10 : decode cX2_replicaAt 10 = .ok (.if_icmp .ge 12, 3) := by decide +kernel
theorem dX2_replicaAt_13 : decode cX2_replicaAt 13 = .ok (.aload_n 0, 1) := by decide +kernel
theorem dX2_replicaAt_14 : decode cX2_replicaAt 14 = .ok (.getfield 11, 3) := by decide +kernel
theorem dX2_replicaAt_17 : decode cX2_replicaAt 17 = .ok (.iload_n 1, 1) := by decide +kernel
theorem dX2_replicaAt_18 : decode cX2_replicaAt 18 = .ok (.aaload, 1) := by decide +kernel
theorem dX2_replicaAt_19 : decode cX2_replicaAt 19 = .ok (.ifnonnull 13, 3) := by decide +kernel
theorem dX2_replicaAt_22 : decode cX2_replicaAt 22 = .ok (.new 161, 3) := by decide +kernel
theorem dX2_replicaAt_25 : decode cX2_replicaAt 25 = .ok (.dup, 1) := by decide +kernel
theorem dX2_replicaAt_26 : decode cX2_replicaAt 26 = .ok (.ldc 163, 2) := by decide +kernel
theorem dX2_replicaAt_28 : decode cX2_replicaAt 28 = .ok (.invokespecial 165, 3) := by decide +kernel
theorem dX2_replicaAt_31 : decode cX2_replicaAt 31 = .ok (.athrow, 1) := by decide +kernel
theorem dX2_replicaAt_32 : decode cX2_replicaAt 32 = .ok (.aload_n 0, 1) := by decide +kernel
theorem dX2_replicaAt_33 : decode cX2_replicaAt 33 = .ok (.getfield 11, 3) := by decide +kernel
theorem dX2_replicaAt_36 : decode cX2_replicaAt 36 = .ok (.iload_n 1, 1) := by decide +kernel
theorem dX2_replicaAt_37 : decode cX2_replicaAt 37 = .ok (.aaload, 1) := by decide +kernel
theorem dX2_replicaAt_38 : decode cX2_replicaAt 38 = .ok (.areturn, 1) := by decide +kernel
theorem dX2_deltaAt_0 : decode cX2_deltaAt 0 = .ok (.iload_n 1, 1) := by decide +kernel
theorem dX2_deltaAt_1 : decode cX2_deltaAt 1 = .ok (.ifCond .lt 21, 3) := by decide +kernel
theorem dX2_deltaAt_4 : decode cX2_deltaAt 4 = .ok (.iload_n 1, 1) := by decide +kernel
theorem dX2_deltaAt_5 : decode cX2_deltaAt 5 = .ok (.aload_n 0, 1) := by decide +kernel
theorem dX2_deltaAt_6 : decode cX2_deltaAt 6 = .ok (.getfield 15, 3) := by decide +kernel
theorem dX2_deltaAt_9 : decode cX2_deltaAt 9 = .ok (.arraylength, 1) := by decide +kernel
theorem dX2_deltaAt_10 : decode cX2_deltaAt 10 = .ok (.if_icmp .ge 12, 3) := by decide +kernel
theorem dX2_deltaAt_13 : decode cX2_deltaAt 13 = .ok (.aload_n 0, 1) := by decide +kernel
theorem dX2_deltaAt_14 : decode cX2_deltaAt 14 = .ok (.getfield 15, 3) := by decide +kernel
theorem dX2_deltaAt_17 : decode cX2_deltaAt 17 = .ok (.iload_n 1, 1) := by decide +kernel
theorem dX2_deltaAt_18 : decode cX2_deltaAt 18 = .ok (.aaload, 1) := by decide +kernel
theorem dX2_deltaAt_19 : decode cX2_deltaAt 19 = .ok (.ifnonnull 13, 3) := by decide +kernel
theorem dX2_deltaAt_22 : decode cX2_deltaAt 22 = .ok (.new 161, 3) := by decide +kernel
theorem dX2_deltaAt_25 : decode cX2_deltaAt 25 = .ok (.dup, 1) := by decide +kernel
theorem dX2_deltaAt_26 : decode cX2_deltaAt 26 = .ok (.ldc 168, 2) := by decide +kernel
theorem dX2_deltaAt_28 : decode cX2_deltaAt 28 = .ok (.invokespecial 165, 3) := by decide +kernel
theorem dX2_deltaAt_31 : decode cX2_deltaAt 31 = .ok (.athrow, 1) := by decide +kernel
theorem dX2_deltaAt_32 : decode cX2_deltaAt 32 = .ok (.aload_n 0, 1) := by decide +kernel
theorem dX2_deltaAt_33 : decode cX2_deltaAt 33 = .ok (.getfield 15, 3) := by decide +kernel
theorem dX2_deltaAt_36 : decode cX2_deltaAt 36 = .ok (.iload_n 1, 1) := by decide +kernel
theorem dX2_deltaAt_37 : decode cX2_deltaAt 37 = .ok (.aaload, 1) := by decide +kernel
theorem dX2_deltaAt_38 : decode cX2_deltaAt 38 = .ok (.areturn, 1) := by decide +kernel
theorem dX2_requireIndex_0 : decode cX2_requireIndex 0 = .ok (.iload_n 0, 1) := by decide +kernel
theorem dX2_requireIndex_1 : decode cX2_requireIndex 1 = .ok (.ifCond .lt 8, 3) := by decide +kernel
theorem dX2_requireIndex_4 : decode cX2_requireIndex 4 = .ok (.iload_n 0, 1) := by decide +kernel
theorem dX2_requireIndex_5 : decode cX2_requireIndex 5 = .ok (.iload_n 1, 1) := by decide +kernel
theorem dX2_requireIndex_6 : decode cX2_requireIndex 6 = .ok (.if_icmp .lt 13, 3) := by decide +kernel
theorem dX2_requireIndex_9 : decode cX2_requireIndex 9 = .ok (.new 161, 3) := by decide +kernel
theorem dX2_requireIndex_12 : decode cX2_requireIndex 12 = .ok (.dup, 1) := by decide +kernel
theorem dX2_requireIndex_13 : decode cX2_requireIndex 13 = .ok (.ldc 170, 2) := by decide +kernel
theorem dX2_requireIndex_15 : decode cX2_requireIndex 15 = .ok (.invokespecial 165, 3) := by decide +kernel
theorem dX2_requireIndex_18 : decode cX2_requireIndex 18 = .ok (.athrow, 1) := by decide +kernel
theorem dX2_requireIndex_19 : decode cX2_requireIndex 19 = .ok (.return_, 1) := by decide +kernel
theorem dX2_requireKind_0 : decode cX2_requireKind 0 = .ok (.iload_n 0, 1) := by decide +kernel
theorem dX2_requireKind_1 : decode cX2_requireKind 1 = .ok (.iconst 4, 1) := by decide +kernel
theorem dX2_requireKind_2 : decode cX2_requireKind 2 = .ok (.irem, 1) := by decide +kernel
theorem dX2_requireKind_3 : decode cX2_requireKind 3 = .ok (.iload_n 1, 1) := by decide +kernel
theorem dX2_requireKind_4 : decode cX2_requireKind 4 = .ok (.if_icmp .eq 13, 3) := by decide +kernel
theorem dX2_requireKind_7 : decode cX2_requireKind 7 = .ok (.new 172, 3) := by decide +kernel
theorem dX2_requireKind_10 : decode cX2_requireKind 10 = .ok (.dup, 1) := by decide +kernel
theorem dX2_requireKind_11 : decode cX2_requireKind 11 = .ok (.ldc 174, 2) := by decide +kernel
theorem dX2_requireKind_13 : decode cX2_requireKind 13 = .ok (.invokespecial 176, 3) := by decide +kernel
theorem dX2_requireKind_16 : decode cX2_requireKind 16 = .ok (.athrow, 1) := by decide +kernel
theorem dX2_requireKind_17 : decode cX2_requireKind 17 = .ok (.return_, 1) := by decide +kernel
theorem dX2_requireTime_0 : decode cX2_requireTime 0 = .ok (.iload_n 0, 1) := by decide +kernel
theorem dX2_requireTime_1 : decode cX2_requireTime 1 = .ok (.ifCond .lt 9, 3) := by decide +kernel
theorem dX2_requireTime_4 : decode cX2_requireTime 4 = .ok (.iload_n 0, 1) := by decide +kernel
theorem dX2_requireTime_5 : decode cX2_requireTime 5 = .ok (.ldc 177, 2) := by decide +kernel
theorem dX2_requireTime_7 : decode cX2_requireTime 7 = .ok (.if_icmp .le 13, 3) := by decide +kernel
theorem dX2_requireTime_10 : decode cX2_requireTime 10 = .ok (.new 178, 3) := by decide +kernel
theorem dX2_requireTime_13 : decode cX2_requireTime 13 = .ok (.dup, 1) := by decide +kernel
theorem dX2_requireTime_14 : decode cX2_requireTime 14 = .ok (.ldc 180, 2) := by decide +kernel
theorem dX2_requireTime_16 : decode cX2_requireTime 16 = .ok (.invokespecial 182, 3) := by decide +kernel
theorem dX2_requireTime_19 : decode cX2_requireTime 19 = .ok (.athrow, 1) := by decide +kernel
theorem dX2_requireTime_20 : decode cX2_requireTime 20 = .ok (.return_, 1) := by decide +kernel
set_option maxRecDepth 20000 in
theorem ggX2_requireDot_X0_canMake : GoodIn wsX2_requireDot wsX0_canMake := goodIn_r _ [8, 9, 10, 17, 18, 19, 20, 21, 22, 23] (by decide +kernel) (by decide +kernel)
set_option maxRecDepth 20000 in
theorem gX2_requireDot_X0_canMake : GoodIn wsX2_requireDot (wsV RX2 183 RX0 yX0_canMake wsX0_canMake) := goodIn_app (goodIn_of _ (by decide +kernel)) ggX2_requireDot_X0_canMake
theorem dX2_requireDot_0 : decode cX2_requireDot 0 = .ok (.aload_n 0, 1) := by decide +kernel
theorem dX2_requireDot_1 : decode cX2_requireDot 1 = .ok (.getfield 21, 3) := by decide +kernel
theorem dX2_requireDot_4 : decode cX2_requireDot 4 = .ok (.iload_n 1, 1) := by decide +kernel
theorem dX2_requireDot_5 : decode cX2_requireDot 5 = .ok (.invokevirtual 183, 3) := by decide +kernel
theorem dX2_requireDot_8 : decode cX2_requireDot 8 = .ok (.ifCond .ne 13, 3) := by decide +kernel
theorem dX2_requireDot_11 : decode cX2_requireDot 11 = .ok (.new 186, 3) := by decide +kernel
theorem dX2_requireDot_14 : decode cX2_requireDot 14 = .ok (.dup, 1) := by decide +kernel
theorem dX2_requireDot_15 : decode cX2_requireDot 15 = .ok (.ldc 188, 2) := by decide +kernel
theorem dX2_requireDot_17 : decode cX2_requireDot 17 = .ok (.invokespecial 190, 3) := by decide +kernel
theorem dX2_requireDot_20 : decode cX2_requireDot 20 = .ok (.athrow, 1) := by decide +kernel
theorem dX2_requireDot_21 : decode cX2_requireDot 21 = .ok (.return_, 1) := by decide +kernel
set_option maxRecDepth 20000 in
theorem ggX2_openDelta_X1_init : GoodIn wsX2_openDelta wsX1_init := goodIn_r _ [9, 10, 11, 12, 13, 14, 15, 16, 17, 18, 19, 26, 27, 28, 29, 30] (by decide +kernel) (by decide +kernel)
set_option maxRecDepth 20000 in
theorem gX2_openDelta_X1_init_n25 : GoodIn wsX2_openDelta (wsX1_init) := ggX2_openDelta_X1_init
theorem dX2_openDelta_0 : decode cX2_openDelta 0 = .ok (.aload_n 0, 1) := by decide +kernel
theorem dX2_openDelta_1 : decode cX2_openDelta 1 = .ok (.getfield 34, 3) := by decide +kernel
theorem dX2_openDelta_4 : decode cX2_openDelta 4 = .ok (.ifCond .lt 15, 3) := by decide +kernel
theorem dX2_openDelta_7 : decode cX2_openDelta 7 = .ok (.aload_n 0, 1) := by decide +kernel
theorem dX2_openDelta_8 : decode cX2_openDelta 8 = .ok (.getfield 34, 3) := by decide +kernel
theorem dX2_openDelta_11 : decode cX2_openDelta 11 = .ok (.aload_n 0, 1) := by decide +kernel
theorem dX2_openDelta_12 : decode cX2_openDelta 12 = .ok (.getfield 15, 3) := by decide +kernel
theorem dX2_openDelta_15 : decode cX2_openDelta 15 = .ok (.arraylength, 1) := by decide +kernel
theorem dX2_openDelta_16 : decode cX2_openDelta 16 = .ok (.if_icmp .lt 13, 3) := by decide +kernel
theorem dX2_openDelta_19 : decode cX2_openDelta 19 = .ok (.new 186, 3) := by decide +kernel
theorem dX2_openDelta_22 : decode cX2_openDelta 22 = .ok (.dup, 1) := by decide +kernel
theorem dX2_openDelta_23 : decode cX2_openDelta 23 = .ok (.ldc 191, 2) := by decide +kernel
theorem dX2_openDelta_25 : decode cX2_openDelta 25 = .ok (.invokespecial 190, 3) := by decide +kernel
theorem dX2_openDelta_28 : decode cX2_openDelta 28 = .ok (.athrow, 1) := by decide +kernel
theorem dX2_openDelta_29 : decode cX2_openDelta 29 = .ok (.new 9, 3) := by decide +kernel
theorem dX2_openDelta_32 : decode cX2_openDelta 32 = .ok (.dup, 1) := by decide +kernel
theorem dX2_openDelta_33 : decode cX2_openDelta 33 = .ok (.invokespecial 25, 3) := by decide +kernel
theorem dX2_openDelta_36 : decode cX2_openDelta 36 = .ok (.astore_n 1, 1) := by decide +kernel
theorem dX2_openDelta_37 : decode cX2_openDelta 37 = .ok (.aload_n 0, 1) := by decide +kernel
theorem dX2_openDelta_38 : decode cX2_openDelta 38 = .ok (.getfield 15, 3) := by decide +kernel
theorem dX2_openDelta_41 : decode cX2_openDelta 41 = .ok (.aload_n 0, 1) := by decide +kernel
theorem dX2_openDelta_42 : decode cX2_openDelta 42 = .ok (.getfield 34, 3) := by decide +kernel
theorem dX2_openDelta_45 : decode cX2_openDelta 45 = .ok (.aload_n 1, 1) := by decide +kernel
theorem dX2_openDelta_46 : decode cX2_openDelta 46 = .ok (.aastore, 1) := by decide +kernel
theorem dX2_openDelta_47 : decode cX2_openDelta 47 = .ok (.aload_n 0, 1) := by decide +kernel
theorem dX2_openDelta_48 : decode cX2_openDelta 48 = .ok (.dup, 1) := by decide +kernel
theorem dX2_openDelta_49 : decode cX2_openDelta 49 = .ok (.getfield 34, 3) := by decide +kernel
theorem dX2_openDelta_52 : decode cX2_openDelta 52 = .ok (.iconst 1, 1) := by decide +kernel
theorem dX2_openDelta_53 : decode cX2_openDelta 53 = .ok (.iadd, 1) := by decide +kernel
theorem dX2_openDelta_54 : decode cX2_openDelta 54 = .ok (.putfield 34, 3) := by decide +kernel
theorem dX2_openDelta_57 : decode cX2_openDelta 57 = .ok (.aload_n 1, 1) := by decide +kernel
theorem dX2_openDelta_58 : decode cX2_openDelta 58 = .ok (.areturn, 1) := by decide +kernel
set_option maxRecDepth 20000 in
theorem ggX2_finish_X1_take : GoodIn wsX2_finish wsX1_take := goodIn_r _ [6, 7, 8, 9, 5, 10, 11, 12, 13, 14, 15, 16, 17, 18, 19, 20, 21, 22, 23, 24, 31, 32, 33, 34, 35] (by decide +kernel) (by decide +kernel)
set_option maxRecDepth 20000 in
theorem gX2_finish_X1_take : GoodIn wsX2_finish (wsV RX2 96 RX1 yX1_take wsX1_take) := goodIn_app (goodIn_of _ (by decide +kernel)) ggX2_finish_X1_take
theorem dX2_finish_0 : decode cX2_finish 0 = .ok (.aload_n 1, 1) := by decide +kernel
theorem dX2_finish_1 : decode cX2_finish 1 = .ok (.aload_n 2, 1) := by decide +kernel
theorem dX2_finish_2 : decode cX2_finish 2 = .ok (.invokevirtual 96, 3) := by decide +kernel
theorem dX2_finish_5 : decode cX2_finish 5 = .ok (.pop, 1) := by decide +kernel
theorem dX2_finish_6 : decode cX2_finish 6 = .ok (.aload_n 0, 1) := by decide +kernel
theorem dX2_finish_7 : decode cX2_finish 7 = .ok (.getfield 34, 3) := by decide +kernel
theorem dX2_finish_10 : decode cX2_finish 10 = .ok (.iconst 1, 1) := by decide +kernel
theorem dX2_finish_11 : decode cX2_finish 11 = .ok (.isub, 1) := by decide +kernel
theorem dX2_finish_12 : decode cX2_finish 12 = .ok (.ireturn, 1) := by decide +kernel
set_option maxRecDepth 20000 in
theorem ggX2_turn_X2_requireDot : GoodIn wsX2_turn wsX2_requireDot := goodIn_ca (goodIn_r _ [6, 7, 8, 1, 9, 10, 11, 12, 13, 14, 15, 90, 91, 92, 93, 94, 95, 96, 97, 98, 99, 100, 101, 102] (by decide +kernel) (by decide +kernel)) (goodIn_sub (fun _ h => List.mem_cons_of_mem _ (List.mem_append_right _ h)) (by decide +kernel))
set_option maxRecDepth 20000 in
theorem gX2_turn_X2_requireDot : GoodIn wsX2_turn (wsV RX2 53 RX2 yX2_requireDot wsX2_requireDot) := goodIn_app (goodIn_of _ (by decide +kernel)) ggX2_turn_X2_requireDot
set_option maxRecDepth 20000 in
theorem ggX2_turn_X2_openDelta : GoodIn wsX2_turn wsX2_openDelta := goodIn_ca (goodIn_r _ [19, 7, 8, 20, 21, 22, 23, 24, 25, 26, 27, 28, 29, 30, 31, 32, 33, 34, 35, 36, 90, 91, 92, 93, 94, 95, 103, 104, 105, 106, 107] (by decide +kernel) (by decide +kernel)) (goodIn_sub (fun _ h => List.mem_cons_of_mem _ (List.mem_append_right _ h)) (by decide +kernel))
set_option maxRecDepth 20000 in
theorem gX2_turn_X2_openDelta : GoodIn wsX2_turn (wsV RX2 57 RX2 yX2_openDelta wsX2_openDelta) := goodIn_app (goodIn_of _ (by decide +kernel)) ggX2_turn_X2_openDelta
set_option maxRecDepth 20000 in
theorem ggX2_turn_X2_takeBack : GoodIn wsX2_turn wsX2_takeBack := goodIn_r _ [40, 1, 41, 42, 43, 44, 45, 24, 46, 32, 47, 48, 49, 12, 50, 51, 52, 53, 54, 55, 56, 57, 31, 90, 91, 92, 93, 94, 95, 96, 97, 98, 99, 100, 101, 102, 103, 104, 105, 106, 107] (by decide +kernel) (by decide +kernel)
set_option maxRecDepth 20000 in
theorem gX2_turn_X2_takeBack : GoodIn wsX2_turn (wsV RX2 61 RX2 yX2_takeBack wsX2_takeBack) := goodIn_app (goodIn_of _ (by decide +kernel)) ggX2_turn_X2_takeBack
set_option maxRecDepth 20000 in
theorem ggX2_turn_X0_make : GoodIn wsX2_turn wsX0_make := goodIn_r _ [61, 14, 15, 53, 62, 51, 52, 63, 96, 97, 98, 99, 100, 101, 102] (by decide +kernel) (by decide +kernel)
set_option maxRecDepth 20000 in
theorem gX2_turn_X0_make : GoodIn wsX2_turn (wsV RX2 65 RX0 yX0_make wsX0_make) := goodIn_app (goodIn_of _ (by decide +kernel)) ggX2_turn_X0_make
set_option maxRecDepth 20000 in
theorem ggX2_turn_X1_enliven : GoodIn wsX2_turn wsX1_enliven := goodIn_r _ [67, 32, 68, 55, 56, 24, 57, 31, 103, 104, 105, 106, 107] (by decide +kernel) (by decide +kernel)
set_option maxRecDepth 20000 in
theorem gX2_turn_X1_enliven : GoodIn wsX2_turn (wsV RX2 69 RX1 yX1_enliven wsX1_enliven) := goodIn_app (goodIn_of _ (by decide +kernel)) ggX2_turn_X1_enliven
set_option maxRecDepth 20000 in
theorem ggX2_turn_X2_finish : GoodIn wsX2_turn wsX2_finish := goodIn_r _ [72, 20, 73, 74, 75, 24, 76, 77, 78, 79, 80, 32, 31, 81, 82, 83, 84, 85, 35, 36, 86, 87, 88, 89, 34, 90, 91, 92, 93, 94, 95, 103, 104, 105, 106, 107] (by decide +kernel) (by decide +kernel)
set_option maxRecDepth 20000 in
theorem gX2_turn_X2_finish : GoodIn wsX2_turn (wsV RX2 72 RX2 yX2_finish wsX2_finish) := goodIn_app (goodIn_of _ (by decide +kernel)) ggX2_turn_X2_finish
theorem dX2_turn_0 : decode cX2_turn 0 = .ok (.iload 5, 2) := by decide +kernel
theorem dX2_turn_2 : decode cX2_turn 2 = .ok (.ifCond .eq 8, 3) := by decide +kernel
theorem dX2_turn_5 : decode cX2_turn 5 = .ok (.aload_n 0, 1) := by decide +kernel
theorem dX2_turn_6 : decode cX2_turn 6 = .ok (.iload_n 2, 1) := by decide +kernel
theorem dX2_turn_7 : decode cX2_turn 7 = .ok (.invokevirtual 53, 3) := by decide +kernel
theorem dX2_turn_10 : decode cX2_turn 10 = .ok (.aload_n 0, 1) := by decide +kernel
theorem dX2_turn_11 : decode cX2_turn 11 = .ok (.invokevirtual 57, 3) := by decide +kernel
theorem dX2_turn_14 : decode cX2_turn 14 = .ok (.astore 6, 2) := by decide +kernel
theorem dX2_turn_16 : decode cX2_turn 16 = .ok (.aload_n 0, 1) := by decide +kernel
theorem dX2_turn_17 : decode cX2_turn 17 = .ok (.aload_n 1, 1) := by decide +kernel
theorem dX2_turn_18 : decode cX2_turn 18 = .ok (.aload 6, 2) := by decide +kernel
theorem dX2_turn_20 : decode cX2_turn 20 = .ok (.iload_n 3, 1) := by decide +kernel
theorem dX2_turn_21 : decode cX2_turn 21 = .ok (.iload 4, 2) := by decide +kernel
theorem dX2_turn_23 : decode cX2_turn 23 = .ok (.iconst (-1), 1) := by decide +kernel
theorem dX2_turn_24 : decode cX2_turn 24 = .ok (.invokevirtual 61, 3) := by decide +kernel
theorem dX2_turn_27 : decode cX2_turn 27 = .ok (.pop2, 1) := by decide +kernel
theorem dX2_turn_28 : decode cX2_turn 28 = .ok (.iload 5, 2) := by decide +kernel
theorem dX2_turn_30 : decode cX2_turn 30 = .ok (.ifCond .eq 20, 3) := by decide +kernel
theorem dX2_turn_33 : decode cX2_turn 33 = .ok (.aload 6, 2) := by decide +kernel
theorem dX2_turn_35 : decode cX2_turn 35 = .ok (.aload_n 0, 1) := by decide +kernel
theorem dX2_turn_36 : decode cX2_turn 36 = .ok (.getfield 21, 3) := by decide +kernel
theorem dX2_turn_39 : decode cX2_turn 39 = .ok (.iload_n 2, 1) := by decide +kernel
theorem dX2_turn_40 : decode cX2_turn 40 = .ok (.iload_n 3, 1) := by decide +kernel
theorem dX2_turn_41 : decode cX2_turn 41 = .ok (.iload 4, 2) := by decide +kernel
theorem dX2_turn_43 : decode cX2_turn 43 = .ok (.lconst 0, 1) := by decide +kernel
theorem dX2_turn_44 : decode cX2_turn 44 = .ok (.invokevirtual 65, 3) := by decide +kernel
theorem dX2_turn_47 : decode cX2_turn 47 = .ok (.invokevirtual 69, 3) := by decide +kernel
theorem dX2_turn_50 : decode cX2_turn 50 = .ok (.aload_n 0, 1) := by decide +kernel
theorem dX2_turn_51 : decode cX2_turn 51 = .ok (.aload_n 1, 1) := by decide +kernel
theorem dX2_turn_52 : decode cX2_turn 52 = .ok (.aload 6, 2) := by decide +kernel
theorem dX2_turn_54 : decode cX2_turn 54 = .ok (.invokevirtual 72, 3) := by decide +kernel
theorem dX2_turn_57 : decode cX2_turn 57 = .ok (.ireturn, 1) := by decide +kernel
set_option maxRecDepth 20000 in
theorem ggX2_takeBack_X1_isLive : GoodIn wsX2_takeBack wsX1_isLive := goodIn_r _ [8, 9, 36, 37, 38, 39, 40] (by decide +kernel) (by decide +kernel)
set_option maxRecDepth 20000 in
theorem gX2_takeBack_X1_isLive : GoodIn wsX2_takeBack (wsV RX2 111 RX1 yX1_isLive wsX1_isLive) := goodIn_app (goodIn_of _ (by decide +kernel)) ggX2_takeBack_X1_isLive
set_option maxRecDepth 20000 in
theorem ggX2_takeBack_X0_fits : GoodIn wsX2_takeBack wsX0_fits := goodIn_r _ [14, 15, 16, 17, 29, 30, 31, 32, 33, 34, 35] (by decide +kernel) (by decide +kernel)
set_option maxRecDepth 20000 in
theorem gX2_takeBack_X0_fits : GoodIn wsX2_takeBack (wsV RX2 115 RX0 yX0_fits wsX0_fits) := goodIn_app (goodIn_of _ (by decide +kernel)) ggX2_takeBack_X0_fits
set_option maxRecDepth 20000 in
theorem ggX2_takeBack_X1_see : GoodIn wsX2_takeBack wsX1_see := goodIn_r _ [21, 22, 36, 37, 38, 39, 40] (by decide +kernel) (by decide +kernel)
set_option maxRecDepth 20000 in
theorem gX2_takeBack_X1_see : GoodIn wsX2_takeBack (wsV RX2 193 RX1 yX1_see wsX1_see) := goodIn_app (goodIn_of _ (by decide +kernel)) ggX2_takeBack_X1_see
theorem dX2_takeBack_0 : decode cX2_takeBack 0 = .ok (.lconst 0, 1) := by decide +kernel
theorem dX2_takeBack_1 : decode cX2_takeBack 1 = .ok (.lstore 6, 2) := by decide +kernel
theorem dX2_takeBack_3 : decode cX2_takeBack 3 = .ok (.iconst 0, 1) := by decide +kernel
theorem dX2_takeBack_4 : decode cX2_takeBack 4 = .ok (.istore 8, 2) := by decide +kernel
theorem dX2_takeBack_6 : decode cX2_takeBack 6 = .ok (.iload 8, 2) := by decide +kernel
theorem dX2_takeBack_8 : decode cX2_takeBack 8 = .ok (.aload_n 0, 1) := by decide +kernel
theorem dX2_takeBack_9 : decode cX2_takeBack 9 = .ok (.getfield 21, 3) := by decide +kernel
theorem dX2_takeBack_12 : decode cX2_takeBack 12 = .ok (.getfield 108, 3) := by decide +kernel
theorem dX2_takeBack_15 : decode cX2_takeBack 15 = .ok (.if_icmp .ge 56, 3) := by decide +kernel
theorem dX2_takeBack_18 : decode cX2_takeBack 18 = .ok (.aload_n 1, 1) := by decide +kernel
theorem dX2_takeBack_19 : decode cX2_takeBack 19 = .ok (.iload 8, 2) := by decide +kernel
theorem dX2_takeBack_21 : decode cX2_takeBack 21 = .ok (.invokevirtual 111, 3) := by decide +kernel
theorem dX2_takeBack_24 : decode cX2_takeBack 24 = .ok (.ifCond .eq 41, 3) := by decide +kernel
theorem dX2_takeBack_27 : decode cX2_takeBack 27 = .ok (.aload_n 0, 1) := by decide +kernel
theorem dX2_takeBack_28 : decode cX2_takeBack 28 = .ok (.getfield 21, 3) := by decide +kernel
theorem dX2_takeBack_31 : decode cX2_takeBack 31 = .ok (.iload 8, 2) := by decide +kernel
theorem dX2_takeBack_33 : decode cX2_takeBack 33 = .ok (.iload_n 3, 1) := by decide +kernel
theorem dX2_takeBack_34 : decode cX2_takeBack 34 = .ok (.iload 4, 2) := by decide +kernel
theorem dX2_takeBack_36 : decode cX2_takeBack 36 = .ok (.iload 5, 2) := by decide +kernel
theorem dX2_takeBack_38 : decode cX2_takeBack 38 = .ok (.invokevirtual 115, 3) := by decide +kernel
theorem dX2_takeBack_41 : decode cX2_takeBack 41 = .ok (.ifCond .eq 24, 3) := by decide +kernel
theorem dX2_takeBack_44 : decode cX2_takeBack 44 = .ok (.aload_n 2, 1) := by decide +kernel
theorem dX2_takeBack_45 : decode cX2_takeBack 45 = .ok (.iload 8, 2) := by decide +kernel
theorem dX2_takeBack_47 : decode cX2_takeBack 47 = .ok (.invokevirtual 193, 3) := by decide +kernel
theorem dX2_takeBack_50 : decode cX2_takeBack 50 = .ok (.lload 6, 2) := by decide +kernel
theorem dX2_takeBack_52 : decode cX2_takeBack 52 = .ok (.aload_n 0, 1) := by decide +kernel
theorem dX2_takeBack_53 : decode cX2_takeBack 53 = .ok (.getfield 21, 3) := by decide +kernel
theorem dX2_takeBack_56 : decode cX2_takeBack 56 = .ok (.getfield 123, 3) := by decide +kernel
theorem dX2_takeBack_59 : decode cX2_takeBack 59 = .ok (.iload 8, 2) := by decide +kernel
theorem dX2_takeBack_61 : decode cX2_takeBack 61 = .ok (.laload, 1) := by decide +kernel
theorem dX2_takeBack_62 : decode cX2_takeBack 62 = .ok (.ladd, 1) := by decide +kernel
theorem dX2_takeBack_63 : decode cX2_takeBack 63 = .ok (.lstore 6, 2) := by decide +kernel
theorem dX2_takeBack_65 : decode cX2_takeBack 65 = .ok (.iinc 8 1, 3) := by decide +kernel
theorem dX2_takeBack_68 : decode cX2_takeBack 68 = .ok (.goto (-62), 3) := by decide +kernel
theorem dX2_takeBack_71 : decode cX2_takeBack 71 = .ok (.lload 6, 2) := by decide +kernel
theorem dX2_takeBack_73 : decode cX2_takeBack 73 = .ok (.lreturn, 1) := by decide +kernel
set_option maxRecDepth 20000 in
theorem ggX2_orderValues_X1_isLive : GoodIn wsX2_orderValues wsX1_isLive := goodIn_r _ [8, 9, 37, 38, 39, 40, 41] (by decide +kernel) (by decide +kernel)
set_option maxRecDepth 20000 in
theorem gX2_orderValues_X1_isLive : GoodIn wsX2_orderValues (wsV RX2 111 RX1 yX1_isLive wsX1_isLive) := goodIn_app (goodIn_of _ (by decide +kernel)) ggX2_orderValues_X1_isLive
set_option maxRecDepth 20000 in
theorem ggX2_orderValues_X0_fits : GoodIn wsX2_orderValues wsX0_fits := goodIn_r _ [14, 15, 16, 17, 30, 31, 32, 33, 34, 35, 36] (by decide +kernel) (by decide +kernel)
set_option maxRecDepth 20000 in
theorem gX2_orderValues_X0_fits : GoodIn wsX2_orderValues (wsV RX2 115 RX0 yX0_fits wsX0_fits) := goodIn_app (goodIn_of _ (by decide +kernel)) ggX2_orderValues_X0_fits
set_option maxRecDepth 20000 in
theorem ggX2_orderValues_X2_orderValue : GoodIn wsX2_orderValues wsX2_orderValue := goodIn_r _ [22, 23, 24, 25, 26, 27, 28, 29] (by decide +kernel) (by decide +kernel)
set_option maxRecDepth 20000 in
theorem gX2_orderValues_X2_orderValue : GoodIn wsX2_orderValues (wsV RX2 196 RX2 yX2_orderValue wsX2_orderValue) := goodIn_app (goodIn_of _ (by decide +kernel)) ggX2_orderValues_X2_orderValue
theorem dX2_orderValues_0 : decode cX2_orderValues 0 = .ok (.iconst 0, 1) := by decide +kernel
theorem dX2_orderValues_1 : decode cX2_orderValues 1 = .ok (.istore_n 3, 1) := by decide +kernel
theorem dX2_orderValues_2 : decode cX2_orderValues 2 = .ok (.iconst 0, 1) := by decide +kernel
theorem dX2_orderValues_3 : decode cX2_orderValues 3 = .ok (.istore 4, 2) := by decide +kernel
theorem dX2_orderValues_5 : decode cX2_orderValues 5 = .ok (.iload 4, 2) := by decide +kernel
theorem dX2_orderValues_7 : decode cX2_orderValues 7 = .ok (.aload_n 0, 1) := by decide +kernel
theorem dX2_orderValues_8 : decode cX2_orderValues 8 = .ok (.getfield 21, 3) := by decide +kernel
theorem dX2_orderValues_11 : decode cX2_orderValues 11 = .ok (.getfield 108, 3) := by decide +kernel
theorem dX2_orderValues_14 : decode cX2_orderValues 14 = .ok (.if_icmp .ge 49, 3) := by decide +kernel
theorem dX2_orderValues_17 : decode cX2_orderValues 17 = .ok (.aload_n 1, 1) := by decide +kernel
theorem dX2_orderValues_18 : decode cX2_orderValues 18 = .ok (.iload 4, 2) := by decide +kernel
theorem dX2_orderValues_20 : decode cX2_orderValues 20 = .ok (.invokevirtual 111, 3) := by decide +kernel
theorem dX2_orderValues_23 : decode cX2_orderValues 23 = .ok (.ifCond .eq 34, 3) := by decide +kernel
theorem dX2_orderValues_26 : decode cX2_orderValues 26 = .ok (.aload_n 0, 1) := by decide +kernel
theorem dX2_orderValues_27 : decode cX2_orderValues 27 = .ok (.getfield 21, 3) := by decide +kernel
theorem dX2_orderValues_30 : decode cX2_orderValues 30 = .ok (.iload 4, 2) := by decide +kernel
theorem dX2_orderValues_32 : decode cX2_orderValues 32 = .ok (.iload_n 2, 1) := by decide +kernel
theorem dX2_orderValues_33 : decode cX2_orderValues 33 = .ok (.iconst (-1), 1) := by decide +kernel
theorem dX2_orderValues_34 : decode cX2_orderValues 34 = .ok (.iconst (-1), 1) := by decide +kernel
theorem dX2_orderValues_35 : decode cX2_orderValues 35 = .ok (.invokevirtual 115, 3) := by decide +kernel
theorem dX2_orderValues_38 : decode cX2_orderValues 38 = .ok (.ifCond .eq 19, 3) := by decide +kernel
theorem dX2_orderValues_41 : decode cX2_orderValues 41 = .ok (.aload_n 0, 1) := by decide +kernel
theorem dX2_orderValues_42 : decode cX2_orderValues 42 = .ok (.aload_n 0, 1) := by decide +kernel
theorem dX2_orderValues_43 : decode cX2_orderValues 43 = .ok (.getfield 21, 3) := by decide +kernel
theorem dX2_orderValues_46 : decode cX2_orderValues 46 = .ok (.getfield 123, 3) := by decide +kernel
theorem dX2_orderValues_49 : decode cX2_orderValues 49 = .ok (.iload 4, 2) := by decide +kernel
theorem dX2_orderValues_51 : decode cX2_orderValues 51 = .ok (.laload, 1) := by decide +kernel
theorem dX2_orderValues_52 : decode cX2_orderValues 52 = .ok (.iload_n 3, 1) := by decide +kernel
theorem dX2_orderValues_53 : decode cX2_orderValues 53 = .ok (.invokevirtual 196, 3) := by decide +kernel
theorem dX2_orderValues_56 : decode cX2_orderValues 56 = .ok (.istore_n 3, 1) := by decide +kernel
theorem dX2_orderValues_57 : decode cX2_orderValues 57 = .ok (.iinc 4 1, 3) := by decide +kernel
theorem dX2_orderValues_60 : decode cX2_orderValues 60 = .ok (.goto (-55), 3) := by decide +kernel
theorem dX2_orderValues_63 : decode cX2_orderValues 63 = .ok (.iload_n 3, 1) := by decide +kernel
theorem dX2_orderValues_64 : decode cX2_orderValues 64 = .ok (.ireturn, 1) := by decide +kernel
theorem dX2_orderValue_0 : decode cX2_orderValue 0 = .ok (.iconst 0, 1) := by decide +kernel
theorem dX2_orderValue_1 : decode cX2_orderValue 1 = .ok (.istore 4, 2) := by decide +kernel
theorem dX2_orderValue_3 : decode cX2_orderValue 3 = .ok (.iload 4, 2) := by decide +kernel
theorem dX2_orderValue_5 : decode cX2_orderValue 5 = .ok (.iload_n 3, 1) := by decide +kernel
theorem dX2_orderValue_6 : decode cX2_orderValue 6 = .ok (.if_icmp .ge 21, 3) := by decide +kernel
theorem dX2_orderValue_9 : decode cX2_orderValue 9 = .ok (.aload_n 0, 1) := by decide +kernel
theorem dX2_orderValue_10 : decode cX2_orderValue 10 = .ok (.getfield 30, 3) := by decide +kernel
theorem dX2_orderValue_13 : decode cX2_orderValue 13 = .ok (.iload 4, 2) := by decide +kernel
theorem dX2_orderValue_15 : decode cX2_orderValue 15 = .ok (.laload, 1) := by decide +kernel
theorem dX2_orderValue_16 : decode cX2_orderValue 16 = .ok (.lload_n 1, 1) := by decide +kernel
theorem dX2_orderValue_17 : decode cX2_orderValue 17 = .ok (.lcmp, 1) := by decide +kernel
theorem dX2_orderValue_18 : decode cX2_orderValue 18 = .ok (.ifCond .ge 9, 3) := by decide +kernel
theorem dX2_orderValue_21 : decode cX2_orderValue 21 = .ok (.iinc 4 1, 3) := by decide +kernel
theorem dX2_orderValue_24 : decode cX2_orderValue 24 = .ok (.goto (-21), 3) := by decide +kernel
theorem dX2_orderValue_27 : decode cX2_orderValue 27 = .ok (.iload 4, 2) := by decide +kernel
theorem dX2_orderValue_29 : decode cX2_orderValue 29 = .ok (.iload_n 3, 1) := by decide +kernel
theorem dX2_orderValue_30 : decode cX2_orderValue 30 = .ok (.if_icmp .ge 17, 3) := by decide +kernel
theorem dX2_orderValue_33 : decode cX2_orderValue 33 = .ok (.aload_n 0, 1) := by decide +kernel
theorem dX2_orderValue_34 : decode cX2_orderValue 34 = .ok (.getfield 30, 3) := by decide +kernel
theorem dX2_orderValue_37 : decode cX2_orderValue 37 = .ok (.iload 4, 2) := by decide +kernel
theorem dX2_orderValue_39 : decode cX2_orderValue 39 = .ok (.laload, 1) := by decide +kernel
theorem dX2_orderValue_40 : decode cX2_orderValue 40 = .ok (.lload_n 1, 1) := by decide +kernel
theorem dX2_orderValue_41 : decode cX2_orderValue 41 = .ok (.lcmp, 1) := by decide +kernel
theorem dX2_orderValue_42 : decode cX2_orderValue 42 = .ok (.ifCond .ne 5, 3) := by decide +kernel
theorem dX2_orderValue_45 : decode cX2_orderValue 45 = .ok (.iload_n 3, 1) := by decide +kernel
theorem dX2_orderValue_46 : decode cX2_orderValue 46 = .ok (.ireturn, 1) := by decide +kernel
theorem dX2_orderValue_47 : decode cX2_orderValue 47 = .ok (.iload_n 3, 1) := by decide +kernel
theorem dX2_orderValue_48 : decode cX2_orderValue 48 = .ok (.istore 5, 2) := by decide +kernel
theorem dX2_orderValue_50 : decode cX2_orderValue 50 = .ok (.iload 5, 2) := by decide +kernel
theorem dX2_orderValue_52 : decode cX2_orderValue 52 = .ok (.iload 4, 2) := by decide +kernel
theorem dX2_orderValue_54 : decode cX2_orderValue 54 = .ok (.if_icmp .le 25, 3) := by decide +kernel
theorem dX2_orderValue_57 : decode cX2_orderValue 57 = .ok (.aload_n 0, 1) := by decide +kernel
theorem dX2_orderValue_58 : decode cX2_orderValue 58 = .ok (.getfield 30, 3) := by decide +kernel
theorem dX2_orderValue_61 : decode cX2_orderValue 61 = .ok (.iload 5, 2) := by decide +kernel
theorem dX2_orderValue_63 : decode cX2_orderValue 63 = .ok (.aload_n 0, 1) := by decide +kernel
theorem dX2_orderValue_64 : decode cX2_orderValue 64 = .ok (.getfield 30, 3) := by decide +kernel
theorem dX2_orderValue_67 : decode cX2_orderValue 67 = .ok (.iload 5, 2) := by decide +kernel
theorem dX2_orderValue_69 : decode cX2_orderValue 69 = .ok (.iconst 1, 1) := by decide +kernel
theorem dX2_orderValue_70 : decode cX2_orderValue 70 = .ok (.isub, 1) := by decide +kernel
theorem dX2_orderValue_71 : decode cX2_orderValue 71 = .ok (.laload, 1) := by decide +kernel
theorem dX2_orderValue_72 : decode cX2_orderValue 72 = .ok (.lastore, 1) := by decide +kernel
theorem dX2_orderValue_73 : decode cX2_orderValue 73 = .ok (.iinc 5 (-1), 3) := by decide +kernel
theorem dX2_orderValue_76 : decode cX2_orderValue 76 = .ok (.goto (-26), 3) := by decide +kernel
theorem dX2_orderValue_79 : decode cX2_orderValue 79 = .ok (.aload_n 0, 1) := by decide +kernel
theorem dX2_orderValue_80 : decode cX2_orderValue 80 = .ok (.getfield 30, 3) := by decide +kernel
theorem dX2_orderValue_83 : decode cX2_orderValue 83 = .ok (.iload 4, 2) := by decide +kernel
theorem dX2_orderValue_85 : decode cX2_orderValue 85 = .ok (.lload_n 1, 1) := by decide +kernel
theorem dX2_orderValue_86 : decode cX2_orderValue 86 = .ok (.lastore, 1) := by decide +kernel
theorem dX2_orderValue_87 : decode cX2_orderValue 87 = .ok (.iload_n 3, 1) := by decide +kernel
theorem dX2_orderValue_88 : decode cX2_orderValue 88 = .ok (.iconst 1, 1) := by decide +kernel
theorem dX2_orderValue_89 : decode cX2_orderValue 89 = .ok (.iadd, 1) := by decide +kernel
theorem dX2_orderValue_90 : decode cX2_orderValue 90 = .ok (.ireturn, 1) := by decide +kernel
set_option maxRecDepth 20000 in
theorem ggX2_stamp_X2_bit : GoodIn wsX2_stamp wsX2_bit := goodIn_r _ [4] (by decide +kernel) (by decide +kernel)
set_option maxRecDepth 20000 in
theorem gX2_stamp_X2_bit : GoodIn wsX2_stamp (va_wsS RX2 100 yX2_bit wsX2_bit) := goodIn_app (goodIn_of _ (by decide +kernel)) ggX2_stamp_X2_bit
theorem dX2_stamp_0 : decode cX2_stamp 0 = .ok (.iconst 1, 1) := by decide +kernel
theorem dX2_stamp_1 : decode cX2_stamp 1 = .ok (.iload_n 0, 1) := by decide +kernel
theorem dX2_stamp_2 : decode cX2_stamp 2 = .ok (.bipush 6, 2) := by decide +kernel
theorem dX2_stamp_4 : decode cX2_stamp 4 = .ok (.imul, 1) := by decide +kernel
theorem dX2_stamp_5 : decode cX2_stamp 5 = .ok (.iload_n 1, 1) := by decide +kernel
theorem dX2_stamp_6 : decode cX2_stamp 6 = .ok (.iadd, 1) := by decide +kernel
theorem dX2_stamp_7 : decode cX2_stamp 7 = .ok (.iconst 2, 1) := by decide +kernel
theorem dX2_stamp_8 : decode cX2_stamp 8 = .ok (.imul, 1) := by decide +kernel
theorem dX2_stamp_9 : decode cX2_stamp 9 = .ok (.iadd, 1) := by decide +kernel
theorem dX2_stamp_10 : decode cX2_stamp 10 = .ok (.iload_n 2, 1) := by decide +kernel
theorem dX2_stamp_11 : decode cX2_stamp 11 = .ok (.invokestatic 100, 3) := by decide +kernel
theorem dX2_stamp_14 : decode cX2_stamp 14 = .ok (.iadd, 1) := by decide +kernel
theorem dX2_stamp_15 : decode cX2_stamp 15 = .ok (.ireturn, 1) := by decide +kernel
theorem dX2_stampIsIn_0 : decode cX2_stampIsIn 0 = .ok (.iload_n 0, 1) := by decide +kernel
theorem dX2_stampIsIn_1 : decode cX2_stampIsIn 1 = .ok (.ifCond .le 16, 3) := by decide +kernel
theorem dX2_stampIsIn_4 : decode cX2_stampIsIn 4 = .ok (.iload_n 0, 1) := by decide +kernel
theorem dX2_stampIsIn_5 : decode cX2_stampIsIn 5 = .ok (.iconst 1, 1) := by decide +kernel
theorem dX2_stampIsIn_6 : decode cX2_stampIsIn 6 = .ok (.isub, 1) := by decide +kernel
theorem dX2_stampIsIn_7 : decode cX2_stampIsIn 7 = .ok (.iconst 2, 1) := by decide +kernel
theorem dX2_stampIsIn_8 : decode cX2_stampIsIn 8 = .ok (.irem, 1) := by decide +kernel
theorem dX2_stampIsIn_9 : decode cX2_stampIsIn 9 = .ok (.iconst 1, 1) := by decide +kernel
theorem dX2_stampIsIn_10 : decode cX2_stampIsIn 10 = .ok (.if_icmp .ne 7, 3) := by decide +kernel
theorem dX2_stampIsIn_13 : decode cX2_stampIsIn 13 = .ok (.iconst 1, 1) := by decide +kernel
theorem dX2_stampIsIn_14 : decode cX2_stampIsIn 14 = .ok (.goto 4, 3) := by decide +kernel
theorem dX2_stampIsIn_17 : decode cX2_stampIsIn 17 = .ok (.iconst 0, 1) := by decide +kernel
theorem dX2_stampIsIn_18 : decode cX2_stampIsIn 18 = .ok (.ireturn, 1) := by decide +kernel
theorem dX2_stampReplica_0 : decode cX2_stampReplica 0 = .ok (.iload_n 0, 1) := by decide +kernel
theorem dX2_stampReplica_1 : decode cX2_stampReplica 1 = .ok (.iconst 1, 1) := by decide +kernel
theorem dX2_stampReplica_2 : decode cX2_stampReplica 2 = .ok (.isub, 1) := by decide +kernel
theorem dX2_stampReplica_3 : decode cX2_stampReplica 3 = .ok (.iconst 2, 1) := by decide +kernel
theorem dX2_stampReplica_4 : decode cX2_stampReplica 4 = .ok (.idiv, 1) := by decide +kernel
theorem dX2_stampReplica_5 : decode cX2_stampReplica 5 = .ok (.bipush 6, 2) := by decide +kernel
theorem dX2_stampReplica_7 : decode cX2_stampReplica 7 = .ok (.irem, 1) := by decide +kernel
theorem dX2_stampReplica_8 : decode cX2_stampReplica 8 = .ok (.ireturn, 1) := by decide +kernel
theorem dX2_stampTime_0 : decode cX2_stampTime 0 = .ok (.iload_n 0, 1) := by decide +kernel
theorem dX2_stampTime_1 : decode cX2_stampTime 1 = .ok (.iconst 1, 1) := by decide +kernel
theorem dX2_stampTime_2 : decode cX2_stampTime 2 = .ok (.isub, 1) := by decide +kernel
theorem dX2_stampTime_3 : decode cX2_stampTime 3 = .ok (.iconst 2, 1) := by decide +kernel
theorem dX2_stampTime_4 : decode cX2_stampTime 4 = .ok (.idiv, 1) := by decide +kernel
theorem dX2_stampTime_5 : decode cX2_stampTime 5 = .ok (.bipush 6, 2) := by decide +kernel
theorem dX2_stampTime_7 : decode cX2_stampTime 7 = .ok (.idiv, 1) := by decide +kernel
theorem dX2_stampTime_8 : decode cX2_stampTime 8 = .ok (.ireturn, 1) := by decide +kernel
theorem dX2_bit_0 : decode cX2_bit 0 = .ok (.iload_n 0, 1) := by decide +kernel
theorem dX2_bit_1 : decode cX2_bit 1 = .ok (.ifCond .eq 7, 3) := by decide +kernel
theorem dX2_bit_4 : decode cX2_bit 4 = .ok (.iconst 1, 1) := by decide +kernel
theorem dX2_bit_5 : decode cX2_bit 5 = .ok (.goto 4, 3) := by decide +kernel
theorem dX2_bit_8 : decode cX2_bit 8 = .ok (.iconst 0, 1) := by decide +kernel
theorem dX2_bit_9 : decode cX2_bit 9 = .ok (.ireturn, 1) := by decide +kernel
set_option maxRecDepth 20000 in
theorem ggX2_bitsIn_J13_bitCount_95d88 : GoodIn wsX2_bitsIn wsJ13_bitCount_95d88 := goodIn_r _ [4, 5, 6, 7] (by decide +kernel) (by decide +kernel)
set_option maxRecDepth 20000 in
theorem gX2_bitsIn_J13_bitCount_95d88 : GoodIn wsX2_bitsIn (va_wsS RX2 200 yJ13_bitCount_95d88 wsJ13_bitCount_95d88) := goodIn_app (goodIn_of _ (by decide +kernel)) ggX2_bitsIn_J13_bitCount_95d88
theorem dX2_bitsIn_0 : decode cX2_bitsIn 0 = .ok (.iconst 0, 1) := by decide +kernel
theorem dX2_bitsIn_1 : decode cX2_bitsIn 1 = .ok (.istore_n 1, 1) := by decide +kernel
theorem dX2_bitsIn_2 : decode cX2_bitsIn 2 = .ok (.iconst 0, 1) := by decide +kernel
theorem dX2_bitsIn_3 : decode cX2_bitsIn 3 = .ok (.istore_n 2, 1) := by decide +kernel
theorem dX2_bitsIn_4 : decode cX2_bitsIn 4 = .ok (.iload_n 2, 1) := by decide +kernel
theorem dX2_bitsIn_5 : decode cX2_bitsIn 5 = .ok (.aload_n 0, 1) := by decide +kernel
theorem dX2_bitsIn_6 : decode cX2_bitsIn 6 = .ok (.arraylength, 1) := by decide +kernel
theorem dX2_bitsIn_7 : decode cX2_bitsIn 7 = .ok (.if_icmp .ge 18, 3) := by decide +kernel
theorem dX2_bitsIn_10 : decode cX2_bitsIn 10 = .ok (.iload_n 1, 1) := by decide +kernel
theorem dX2_bitsIn_11 : decode cX2_bitsIn 11 = .ok (.aload_n 0, 1) := by decide +kernel
theorem dX2_bitsIn_12 : decode cX2_bitsIn 12 = .ok (.iload_n 2, 1) := by decide +kernel
theorem dX2_bitsIn_13 : decode cX2_bitsIn 13 = .ok (.laload, 1) := by decide +kernel
theorem dX2_bitsIn_14 : decode cX2_bitsIn 14 = .ok (.invokestatic 200, 3) := by decide +kernel
theorem dX2_bitsIn_17 : decode cX2_bitsIn 17 = .ok (.iadd, 1) := by decide +kernel
theorem dX2_bitsIn_18 : decode cX2_bitsIn 18 = .ok (.istore_n 1, 1) := by decide +kernel
theorem dX2_bitsIn_19 : decode cX2_bitsIn 19 = .ok (.iinc 2 1, 3) := by decide +kernel
theorem dX2_bitsIn_22 : decode cX2_bitsIn 22 = .ok (.goto (-18), 3) := by decide +kernel
theorem dX2_bitsIn_25 : decode cX2_bitsIn 25 = .ok (.iload_n 1, 1) := by decide +kernel
theorem dX2_bitsIn_26 : decode cX2_bitsIn 26 = .ok (.ireturn, 1) := by decide +kernel
theorem dX3_init_0 : decode cX3_init 0 = .ok (.aload_n 0, 1) := by decide +kernel
theorem dX3_init_1 : decode cX3_init 1 = .ok (.invokespecial 1, 3) := by decide +kernel
theorem dX3_init_4 : decode cX3_init 4 = .ok (.aload_n 0, 1) := by decide +kernel
theorem dX3_init_5 : decode cX3_init 5 = .ok (.sipush 3084, 3) := by decide +kernel
theorem dX3_init_8 : decode cX3_init 8 = .ok (.newarray .long, 2) := by decide +kernel
theorem dX3_init_10 : decode cX3_init 10 = .ok (.putfield 7, 3) := by decide +kernel
theorem dX3_init_13 : decode cX3_init 13 = .ok (.aload_n 0, 1) := by decide +kernel
theorem dX3_init_14 : decode cX3_init 14 = .ok (.sipush 3084, 3) := by decide +kernel
theorem dX3_init_17 : decode cX3_init 17 = .ok (.newarray .long, 2) := by decide +kernel
theorem dX3_init_19 : decode cX3_init 19 = .ok (.putfield 13, 3) := by decide +kernel
theorem dX3_init_22 : decode cX3_init 22 = .ok (.aload_n 0, 1) := by decide +kernel
theorem dX3_init_23 : decode cX3_init 23 = .ok (.sipush 257, 3) := by decide +kernel
theorem dX3_init_26 : decode cX3_init 26 = .ok (.newarray .int, 2) := by decide +kernel
theorem dX3_init_28 : decode cX3_init 28 = .ok (.putfield 16, 3) := by decide +kernel
theorem dX3_init_31 : decode cX3_init 31 = .ok (.aload_n 0, 1) := by decide +kernel
theorem dX3_init_32 : decode cX3_init 32 = .ok (.sipush 257, 3) := by decide +kernel
theorem dX3_init_35 : decode cX3_init 35 = .ok (.newarray .int, 2) := by decide +kernel
theorem dX3_init_37 : decode cX3_init 37 = .ok (.putfield 20, 3) := by decide +kernel
theorem dX3_init_40 : decode cX3_init 40 = .ok (.aload_n 0, 1) := by decide +kernel
theorem dX3_init_41 : decode cX3_init 41 = .ok (.sipush 8224, 3) := by decide +kernel
theorem dX3_init_44 : decode cX3_init 44 = .ok (.newarray .int, 2) := by decide +kernel
theorem dX3_init_46 : decode cX3_init 46 = .ok (.putfield 23, 3) := by decide +kernel
theorem dX3_init_49 : decode cX3_init 49 = .ok (.aload_n 0, 1) := by decide +kernel
theorem dX3_init_50 : decode cX3_init 50 = .ok (.sipush 8224, 3) := by decide +kernel
theorem dX3_init_53 : decode cX3_init 53 = .ok (.newarray .int, 2) := by decide +kernel
theorem dX3_init_55 : decode cX3_init 55 = .ok (.putfield 26, 3) := by decide +kernel
theorem dX3_init_58 : decode cX3_init 58 = .ok (.aload_n 0, 1) := by decide +kernel
theorem dX3_init_59 : decode cX3_init 59 = .ok (.sipush 8224, 3) := by decide +kernel
theorem dX3_init_62 : decode cX3_init 62 = .ok (.newarray .boolean, 2) := by decide +kernel
theorem dX3_init_64 : decode cX3_init 64 = .ok (.putfield 29, 3) := by decide +kernel
theorem dX3_init_67 : decode cX3_init 67 = .ok (.aload_n 0, 1) := by decide +kernel
theorem dX3_init_68 : decode cX3_init 68 = .ok (.sipush 606, 3) := by decide +kernel
theorem dX3_init_71 : decode cX3_init 71 = .ok (.newarray .int, 2) := by decide +kernel
theorem dX3_init_73 : decode cX3_init 73 = .ok (.putfield 33, 3) := by decide +kernel
theorem dX3_init_76 : decode cX3_init 76 = .ok (.aload_n 0, 1) := by decide +kernel
theorem dX3_init_77 : decode cX3_init 77 = .ok (.sipush 606, 3) := by decide +kernel
theorem dX3_init_80 : decode cX3_init 80 = .ok (.newarray .int, 2) := by decide +kernel
theorem dX3_init_82 : decode cX3_init 82 = .ok (.putfield 36, 3) := by decide +kernel
theorem dX3_init_85 : decode cX3_init 85 = .ok (.aload_n 0, 1) := by decide +kernel
theorem dX3_init_86 : decode cX3_init 86 = .ok (.sipush 606, 3) := by decide +kernel
theorem dX3_init_89 : decode cX3_init 89 = .ok (.newarray .long, 2) := by decide +kernel
theorem dX3_init_91 : decode cX3_init 91 = .ok (.putfield 39, 3) := by decide +kernel
theorem dX3_init_94 : decode cX3_init 94 = .ok (.aload_n 0, 1) := by decide +kernel
theorem dX3_init_95 : decode cX3_init 95 = .ok (.sipush 600, 3) := by decide +kernel
theorem dX3_init_98 : decode cX3_init 98 = .ok (.newarray .long, 2) := by decide +kernel
theorem dX3_init_100 : decode cX3_init 100 = .ok (.putfield 42, 3) := by decide +kernel
theorem dX3_init_103 : decode cX3_init 103 = .ok (.return_, 1) := by decide +kernel
theorem dX3_thrown_0 : decode cX3_thrown 0 = .ok (.aload_n 0, 1) := by decide +kernel
theorem dX3_thrown_1 : decode cX3_thrown 1 = .ok (.getfield 45, 3) := by decide +kernel
theorem dX3_thrown_4 : decode cX3_thrown 4 = .ok (.ireturn, 1) := by decide +kernel
theorem dX3_in_0 : decode cX3_in 0 = .ok (.iload_n 0, 1) := by decide +kernel
theorem dX3_in_1 : decode cX3_in 1 = .ok (.iload_n 1, 1) := by decide +kernel
theorem dX3_in_2 : decode cX3_in 2 = .ok (.if_icmp .lt 12, 3) := by decide +kernel
theorem dX3_in_5 : decode cX3_in 5 = .ok (.iload_n 0, 1) := by decide +kernel
theorem dX3_in_6 : decode cX3_in 6 = .ok (.iload_n 2, 1) := by decide +kernel
theorem dX3_in_7 : decode cX3_in 7 = .ok (.if_icmp .gt 7, 3) := by decide +kernel
theorem dX3_in_10 : decode cX3_in 10 = .ok (.iconst 1, 1) := by decide +kernel
theorem dX3_in_11 : decode cX3_in 11 = .ok (.goto 4, 3) := by decide +kernel
theorem dX3_in_14 : decode cX3_in 14 = .ok (.iconst 0, 1) := by decide +kernel
theorem dX3_in_15 : decode cX3_in 15 = .ok (.ireturn, 1) := by decide +kernel
theorem dX3_goes_0 : decode cX3_goes 0 = .ok (.aload_n 0, 1) := by decide +kernel
theorem dX3_goes_1 : decode cX3_goes 1 = .ok (.iload_n 1, 1) := by decide +kernel
theorem dX3_goes_2 : decode cX3_goes 2 = .ok (.ifCond .eq 7, 3) := by decide +kernel
theorem dX3_goes_5 : decode cX3_goes 5 = .ok (.iconst 0, 1) := by decide +kernel
theorem dX3_goes_6 : decode cX3_goes 6 = .ok (.goto 4, 3) := by decide +kernel
theorem dX3_goes_9 : decode cX3_goes 9 = .ok (.iconst 1, 1) := by decide +kernel
theorem dX3_goes_10 : decode cX3_goes 10 = .ok (.putfield 45, 3) := by decide +kernel
theorem dX3_goes_13 : decode cX3_goes 13 = .ok (.iload_n 1, 1) := by decide +kernel
theorem dX3_goes_14 : decode cX3_goes 14 = .ok (.ireturn, 1) := by decide +kernel
theorem dX3_dot_0 : decode cX3_dot 0 = .ok (.bipush 101, 2) := by decide +kernel
theorem dX3_dot_2 : decode cX3_dot 2 = .ok (.iload_n 0, 1) := by decide +kernel
theorem dX3_dot_3 : decode cX3_dot 3 = .ok (.imul, 1) := by decide +kernel
theorem dX3_dot_4 : decode cX3_dot 4 = .ok (.iload_n 1, 1) := by decide +kernel
theorem dX3_dot_5 : decode cX3_dot 5 = .ok (.iadd, 1) := by decide +kernel
theorem dX3_dot_6 : decode cX3_dot 6 = .ok (.ireturn, 1) := by decide +kernel
theorem dX3_isSet_0 : decode cX3_isSet 0 = .ok (.aload_n 0, 1) := by decide +kernel
theorem dX3_isSet_1 : decode cX3_isSet 1 = .ok (.bipush 12, 2) := by decide +kernel
theorem dX3_isSet_3 : decode cX3_isSet 3 = .ok (.iload_n 1, 1) := by decide +kernel
theorem dX3_isSet_4 : decode cX3_isSet 4 = .ok (.imul, 1) := by decide +kernel
theorem dX3_isSet_5 : decode cX3_isSet 5 = .ok (.iconst 2, 1) := by decide +kernel
theorem dX3_isSet_6 : decode cX3_isSet 6 = .ok (.iload_n 2, 1) := by decide +kernel
theorem dX3_isSet_7 : decode cX3_isSet 7 = .ok (.imul, 1) := by decide +kernel
theorem dX3_isSet_8 : decode cX3_isSet 8 = .ok (.iadd, 1) := by decide +kernel
theorem dX3_isSet_9 : decode cX3_isSet 9 = .ok (.iload_n 3, 1) := by decide +kernel
theorem dX3_isSet_10 : decode cX3_isSet 10 = .ok (.iconst 1, 1) := by decide +kernel
theorem dX3_isSet_11 : decode cX3_isSet 11 = .ok (.isub, 1) := by decide +kernel
theorem dX3_isSet_12 : decode cX3_isSet 12 = .ok (.bipush 64, 2) := by decide +kernel
theorem dX3_isSet_14 : decode cX3_isSet 14 = .ok (.idiv, 1) := by decide +kernel
theorem dX3_isSet_15 : decode cX3_isSet 15 = .ok (.iadd, 1) := by decide +kernel
theorem dX3_isSet_16 : decode cX3_isSet 16 = .ok (.laload, 1) := by decide +kernel
theorem dX3_isSet_17 : decode cX3_isSet 17 = .ok (.iload_n 3, 1) := by decide +kernel
theorem dX3_isSet_18 : decode cX3_isSet 18 = .ok (.iconst 1, 1) := by decide +kernel
theorem dX3_isSet_19 : decode cX3_isSet 19 = .ok (.isub, 1) := by decide +kernel
theorem dX3_isSet_20 : decode cX3_isSet 20 = .ok (.bipush 64, 2) := by decide +kernel
theorem dX3_isSet_22 : decode cX3_isSet 22 = .ok (.irem, 1) := by decide +kernel
theorem dX3_isSet_23 : decode cX3_isSet 23 = .ok (.lshr, 1) := by decide +kernel
theorem dX3_isSet_24 : decode cX3_isSet 24 = .ok (.lconst 1, 1) := by decide +kernel
theorem dX3_isSet_25 : decode cX3_isSet 25 = .ok (.land, 1) := by decide +kernel
theorem dX3_isSet_26 : decode cX3_isSet 26 = .ok (.lconst 1, 1) := by decide +kernel
theorem dX3_isSet_27 : decode cX3_isSet 27 = .ok (.lcmp, 1) := by decide +kernel
theorem dX3_isSet_28 : decode cX3_isSet 28 = .ok (.ifCond .ne 7, 3) := by decide +kernel
theorem dX3_isSet_31 : decode cX3_isSet 31 = .ok (.iconst 1, 1) := by decide +kernel
theorem dX3_isSet_32 : decode cX3_isSet 32 = .ok (.goto 4, 3) := by decide +kernel
theorem dX3_isSet_35 : decode cX3_isSet 35 = .ok (.iconst 0, 1) := by decide +kernel
theorem dX3_isSet_36 : decode cX3_isSet 36 = .ok (.ireturn, 1) := by decide +kernel
theorem dX3_set_0 : decode cX3_set 0 = .ok (.bipush 12, 2) := by decide +kernel
theorem dX3_set_2 : decode cX3_set 2 = .ok (.iload_n 1, 1) := by decide +kernel
theorem dX3_set_3 : decode cX3_set 3 = .ok (.imul, 1) := by decide +kernel
theorem dX3_set_4 : decode cX3_set 4 = .ok (.iconst 2, 1) := by decide +kernel
theorem dX3_set_5 : decode cX3_set 5 = .ok (.iload_n 2, 1) := by decide +kernel
theorem dX3_set_6 : decode cX3_set 6 = .ok (.imul, 1) := by decide +kernel
theorem dX3_set_7 : decode cX3_set 7 = .ok (.iadd, 1) := by decide +kernel
theorem dX3_set_8 : decode cX3_set 8 = .ok (.iload_n 3, 1) := by decide +kernel
theorem dX3_set_9 : decode cX3_set 9 = .ok (.iconst 1, 1) := by decide +kernel
theorem dX3_set_10 : decode cX3_set 10 = .ok (.isub, 1) := by decide +kernel
theorem dX3_set_11 : decode cX3_set 11 = .ok (.bipush 64, 2) := by decide +kernel
theorem dX3_set_13 : decode cX3_set 13 = .ok (.idiv, 1) := by decide +kernel
theorem dX3_set_14 : decode cX3_set 14 = .ok (.iadd, 1) := by decide +kernel
theorem dX3_set_15 : decode cX3_set 15 = .ok (.istore 4, 2) := by decide +kernel
theorem dX3_set_17 : decode cX3_set 17 = .ok (.aload_n 0, 1) := by decide +kernel
theorem dX3_set_18 : decode cX3_set 18 = .ok (.iload 4, 2) := by decide +kernel
theorem dX3_set_20 : decode cX3_set 20 = .ok (.aload_n 0, 1) := by decide +kernel
theorem dX3_set_21 : decode cX3_set 21 = .ok (.iload 4, 2) := by decide +kernel
theorem dX3_set_23 : decode cX3_set 23 = .ok (.laload, 1) := by decide +kernel
theorem dX3_set_24 : decode cX3_set 24 = .ok (.lconst 1, 1) := by decide +kernel
theorem dX3_set_25 : decode cX3_set 25 = .ok (.iload_n 3, 1) := by decide +kernel
theorem dX3_set_26 : decode cX3_set 26 = .ok (.iconst 1, 1) := by decide +kernel
theorem dX3_set_27 : decode cX3_set 27 = .ok (.isub, 1) := by decide +kernel
theorem dX3_set_28 : decode cX3_set 28 = .ok (.bipush 64, 2) := by decide +kernel
theorem dX3_set_30 : decode cX3_set 30 = .ok (.irem, 1) := by decide +kernel
theorem dX3_set_31 : decode cX3_set 31 = .ok (.lshl, 1) := by decide +kernel
theorem dX3_set_32 : decode cX3_set 32 = .ok (.lor, 1) := by decide +kernel
theorem dX3_set_33 : decode cX3_set 33 = .ok (.lastore, 1) := by decide +kernel
theorem dX3_set_34 : decode cX3_set 34 = .ok (.return_, 1) := by decide +kernel
set_option maxRecDepth 20000 in
theorem ggX3_greatest_X3_isSet : GoodIn wsX3_greatest wsX3_isSet := goodIn_r _ [5] (by decide +kernel) (by decide +kernel)
set_option maxRecDepth 20000 in
theorem gX3_greatest_X3_isSet : GoodIn wsX3_greatest (va_wsS RX3 49 yX3_isSet wsX3_isSet) := goodIn_app (goodIn_of _ (by decide +kernel)) ggX3_greatest_X3_isSet
theorem dX3_greatest_0 : decode cX3_greatest 0 = .ok (.bipush 100, 2) := by decide +kernel
theorem dX3_greatest_2 : decode cX3_greatest 2 = .ok (.istore_n 3, 1) := by decide +kernel
theorem dX3_greatest_3 : decode cX3_greatest 3 = .ok (.iload_n 3, 1) := by decide +kernel
theorem dX3_greatest_4 : decode cX3_greatest 4 = .ok (.ifCond .le 22, 3) := by decide +kernel
theorem dX3_greatest_7 : decode cX3_greatest 7 = .ok (.aload_n 0, 1) := by decide +kernel
theorem dX3_greatest_8 : decode cX3_greatest 8 = .ok (.getfield 7, 3) := by decide +kernel
theorem dX3_greatest_11 : decode cX3_greatest 11 = .ok (.iload_n 1, 1) := by decide +kernel
theorem dX3_greatest_12 : decode cX3_greatest 12 = .ok (.iload_n 2, 1) := by decide +kernel
theorem dX3_greatest_13 : decode cX3_greatest 13 = .ok (.iload_n 3, 1) := by decide +kernel
theorem dX3_greatest_14 : decode cX3_greatest 14 = .ok (.invokestatic 49, 3) := by decide +kernel
theorem dX3_greatest_17 : decode cX3_greatest 17 = .ok (.ifCond .ne 9, 3) := by decide +kernel
theorem dX3_greatest_20 : decode cX3_greatest 20 = .ok (.iinc 3 (-1), 3) := by decide +kernel
theorem dX3_greatest_23 : decode cX3_greatest 23 = .ok (.goto (-20), 3) := by decide +kernel
theorem dX3_greatest_26 : decode cX3_greatest 26 = .ok (.iload_n 3, 1) := by decide +kernel
theorem dX3_greatest_27 : decode cX3_greatest 27 = .ok (.ireturn, 1) := by decide +kernel
theorem dX3_empty_0 : decode cX3_empty 0 = .ok (.iconst 0, 1) := by decide +kernel
theorem dX3_empty_1 : decode cX3_empty 1 = .ok (.istore_n 2, 1) := by decide +kernel
theorem dX3_empty_2 : decode cX3_empty 2 = .ok (.iload_n 2, 1) := by decide +kernel
theorem dX3_empty_3 : decode cX3_empty 3 = .ok (.bipush 12, 2) := by decide +kernel
theorem dX3_empty_5 : decode cX3_empty 5 = .ok (.if_icmp .ge 33, 3) := by decide +kernel
theorem dX3_empty_8 : decode cX3_empty 8 = .ok (.aload_n 0, 1) := by decide +kernel
theorem dX3_empty_9 : decode cX3_empty 9 = .ok (.getfield 7, 3) := by decide +kernel
theorem dX3_empty_12 : decode cX3_empty 12 = .ok (.bipush 12, 2) := by decide +kernel
theorem dX3_empty_14 : decode cX3_empty 14 = .ok (.iload_n 1, 1) := by decide +kernel
theorem dX3_empty_15 : decode cX3_empty 15 = .ok (.imul, 1) := by decide +kernel
theorem dX3_empty_16 : decode cX3_empty 16 = .ok (.iload_n 2, 1) := by decide +kernel
theorem dX3_empty_17 : decode cX3_empty 17 = .ok (.iadd, 1) := by decide +kernel
theorem dX3_empty_18 : decode cX3_empty 18 = .ok (.lconst 0, 1) := by decide +kernel
theorem dX3_empty_19 : decode cX3_empty 19 = .ok (.lastore, 1) := by decide +kernel
theorem dX3_empty_20 : decode cX3_empty 20 = .ok (.aload_n 0, 1) := by decide +kernel
theorem dX3_empty_21 : decode cX3_empty 21 = .ok (.getfield 13, 3) := by decide +kernel
theorem dX3_empty_24 : decode cX3_empty 24 = .ok (.bipush 12, 2) := by decide +kernel
theorem dX3_empty_26 : decode cX3_empty 26 = .ok (.iload_n 1, 1) := by decide +kernel
theorem dX3_empty_27 : decode cX3_empty 27 = .ok (.imul, 1) := by decide +kernel
theorem dX3_empty_28 : decode cX3_empty 28 = .ok (.iload_n 2, 1) := by decide +kernel
theorem dX3_empty_29 : decode cX3_empty 29 = .ok (.iadd, 1) := by decide +kernel
theorem dX3_empty_30 : decode cX3_empty 30 = .ok (.lconst 0, 1) := by decide +kernel
theorem dX3_empty_31 : decode cX3_empty 31 = .ok (.lastore, 1) := by decide +kernel
theorem dX3_empty_32 : decode cX3_empty 32 = .ok (.iinc 2 1, 3) := by decide +kernel
theorem dX3_empty_35 : decode cX3_empty 35 = .ok (.goto (-33), 3) := by decide +kernel
theorem dX3_empty_38 : decode cX3_empty 38 = .ok (.aload_n 0, 1) := by decide +kernel
theorem dX3_empty_39 : decode cX3_empty 39 = .ok (.getfield 16, 3) := by decide +kernel
theorem dX3_empty_42 : decode cX3_empty 42 = .ok (.iload_n 1, 1) := by decide +kernel
theorem dX3_empty_43 : decode cX3_empty 43 = .ok (.iconst 0, 1) := by decide +kernel
theorem dX3_empty_44 : decode cX3_empty 44 = .ok (.iastore, 1) := by decide +kernel
theorem dX3_empty_45 : decode cX3_empty 45 = .ok (.aload_n 0, 1) := by decide +kernel
theorem dX3_empty_46 : decode cX3_empty 46 = .ok (.getfield 20, 3) := by decide +kernel
theorem dX3_empty_49 : decode cX3_empty 49 = .ok (.iload_n 1, 1) := by decide +kernel
theorem dX3_empty_50 : decode cX3_empty 50 = .ok (.iconst 0, 1) := by decide +kernel
theorem dX3_empty_51 : decode cX3_empty 51 = .ok (.iastore, 1) := by decide +kernel
theorem dX3_empty_52 : decode cX3_empty 52 = .ok (.iconst 0, 1) := by decide +kernel
theorem dX3_empty_53 : decode cX3_empty 53 = .ok (.istore_n 2, 1) := by decide +kernel
theorem dX3_empty_54 : decode cX3_empty 54 = .ok (.iload_n 2, 1) := by decide +kernel
theorem dX3_empty_55 : decode cX3_empty 55 = .ok (.bipush 32, 2) := by decide +kernel
theorem dX3_empty_57 : decode cX3_empty 57 = .ok (.if_icmp .ge 45, 3) := by decide +kernel
theorem dX3_empty_60 : decode cX3_empty 60 = .ok (.aload_n 0, 1) := by decide +kernel
theorem dX3_empty_61 : decode cX3_empty 61 = .ok (.getfield 23, 3) := by decide +kernel
theorem dX3_empty_64 : decode cX3_empty 64 = .ok (.bipush 32, 2) := by decide +kernel
theorem dX3_empty_66 : decode cX3_empty 66 = .ok (.iload_n 1, 1) := by decide +kernel
theorem dX3_empty_67 : decode cX3_empty 67 = .ok (.imul, 1) := by decide +kernel
theorem dX3_empty_68 : decode cX3_empty 68 = .ok (.iload_n 2, 1) := by decide +kernel
theorem dX3_empty_69 : decode cX3_empty 69 = .ok (.iadd, 1) := by decide +kernel
theorem dX3_empty_70 : decode cX3_empty 70 = .ok (.iconst 0, 1) := by decide +kernel
theorem dX3_empty_71 : decode cX3_empty 71 = .ok (.iastore, 1) := by decide +kernel
theorem dX3_empty_72 : decode cX3_empty 72 = .ok (.aload_n 0, 1) := by decide +kernel
theorem dX3_empty_73 : decode cX3_empty 73 = .ok (.getfield 26, 3) := by decide +kernel
theorem dX3_empty_76 : decode cX3_empty 76 = .ok (.bipush 32, 2) := by decide +kernel
theorem dX3_empty_78 : decode cX3_empty 78 = .ok (.iload_n 1, 1) := by decide +kernel
theorem dX3_empty_79 : decode cX3_empty 79 = .ok (.imul, 1) := by decide +kernel
theorem dX3_empty_80 : decode cX3_empty 80 = .ok (.iload_n 2, 1) := by decide +kernel
theorem dX3_empty_81 : decode cX3_empty 81 = .ok (.iadd, 1) := by decide +kernel
theorem dX3_empty_82 : decode cX3_empty 82 = .ok (.iconst 0, 1) := by decide +kernel
theorem dX3_empty_83 : decode cX3_empty 83 = .ok (.iastore, 1) := by decide +kernel
theorem dX3_empty_84 : decode cX3_empty 84 = .ok (.aload_n 0, 1) := by decide +kernel
theorem dX3_empty_85 : decode cX3_empty 85 = .ok (.getfield 29, 3) := by decide +kernel
theorem dX3_empty_88 : decode cX3_empty 88 = .ok (.bipush 32, 2) := by decide +kernel
theorem dX3_empty_90 : decode cX3_empty 90 = .ok (.iload_n 1, 1) := by decide +kernel
theorem dX3_empty_91 : decode cX3_empty 91 = .ok (.imul, 1) := by decide +kernel
theorem dX3_empty_92 : decode cX3_empty 92 = .ok (.iload_n 2, 1) := by decide +kernel
theorem dX3_empty_93 : decode cX3_empty 93 = .ok (.iadd, 1) := by decide +kernel
theorem dX3_empty_94 : decode cX3_empty 94 = .ok (.iconst 0, 1) := by decide +kernel
theorem dX3_empty_95 : decode cX3_empty 95 = .ok (.bastore, 1) := by decide +kernel
theorem dX3_empty_96 : decode cX3_empty 96 = .ok (.iinc 2 1, 3) := by decide +kernel
theorem dX3_empty_99 : decode cX3_empty 99 = .ok (.goto (-45), 3) := by decide +kernel
theorem dX3_empty_102 : decode cX3_empty 102 = .ok (.return_, 1) := by decide +kernel
set_option maxRecDepth 20000 in
theorem ggX3_copy_X3_copyTimed : GoodIn wsX3_copy wsX3_copyTimed := goodIn_r _ [9, 10, 11, 12, 13, 14, 15, 16, 17, 18, 19, 20, 21, 22, 23, 24, 25, 26] (by decide +kernel) (by decide +kernel)
set_option maxRecDepth 20000 in
theorem gX3_copy_X3_copyTimed : GoodIn wsX3_copy (wsV RX3 53 RX3 yX3_copyTimed wsX3_copyTimed) := goodIn_app (goodIn_of _ (by decide +kernel)) ggX3_copy_X3_copyTimed
theorem dX3_copy_0 : decode cX3_copy 0 = .ok (.iconst 0, 1) := by decide +kernel
theorem dX3_copy_1 : decode cX3_copy 1 = .ok (.istore_n 3, 1) := by decide +kernel
theorem dX3_copy_2 : decode cX3_copy 2 = .ok (.iload_n 3, 1) := by decide +kernel
theorem dX3_copy_3 : decode cX3_copy 3 = .ok (.bipush 12, 2) := by decide +kernel
theorem dX3_copy_5 : decode cX3_copy 5 = .ok (.if_icmp .ge 53, 3) := by decide +kernel
theorem dX3_copy_8 : decode cX3_copy 8 = .ok (.aload_n 0, 1) := by decide +kernel
theorem dX3_copy_9 : decode cX3_copy 9 = .ok (.getfield 7, 3) := by decide +kernel
theorem dX3_copy_12 : decode cX3_copy 12 = .ok (.bipush 12, 2) := by decide +kernel
theorem dX3_copy_14 : decode cX3_copy 14 = .ok (.iload_n 2, 1) := by decide +kernel
theorem dX3_copy_15 : decode cX3_copy 15 = .ok (.imul, 1) := by decide +kernel
theorem dX3_copy_16 : decode cX3_copy 16 = .ok (.iload_n 3, 1) := by decide +kernel
theorem dX3_copy_17 : decode cX3_copy 17 = .ok (.iadd, 1) := by decide +kernel
theorem dX3_copy_18 : decode cX3_copy 18 = .ok (.aload_n 0, 1) := by decide +kernel
theorem dX3_copy_19 : decode cX3_copy 19 = .ok (.getfield 7, 3) := by decide +kernel
theorem dX3_copy_22 : decode cX3_copy 22 = .ok (.bipush 12, 2) := by decide +kernel
theorem dX3_copy_24 : decode cX3_copy 24 = .ok (.iload_n 1, 1) := by decide +kernel
theorem dX3_copy_25 : decode cX3_copy 25 = .ok (.imul, 1) := by decide +kernel
theorem dX3_copy_26 : decode cX3_copy 26 = .ok (.iload_n 3, 1) := by decide +kernel
theorem dX3_copy_27 : decode cX3_copy 27 = .ok (.iadd, 1) := by decide +kernel
theorem dX3_copy_28 : decode cX3_copy 28 = .ok (.laload, 1) := by decide +kernel
theorem dX3_copy_29 : decode cX3_copy 29 = .ok (.lastore, 1) := by decide +kernel
theorem dX3_copy_30 : decode cX3_copy 30 = .ok (.aload_n 0, 1) := by decide +kernel
theorem dX3_copy_31 : decode cX3_copy 31 = .ok (.getfield 13, 3) := by decide +kernel
theorem dX3_copy_34 : decode cX3_copy 34 = .ok (.bipush 12, 2) := by decide +kernel
theorem dX3_copy_36 : decode cX3_copy 36 = .ok (.iload_n 2, 1) := by decide +kernel
theorem dX3_copy_37 : decode cX3_copy 37 = .ok (.imul, 1) := by decide +kernel
theorem dX3_copy_38 : decode cX3_copy 38 = .ok (.iload_n 3, 1) := by decide +kernel
theorem dX3_copy_39 : decode cX3_copy 39 = .ok (.iadd, 1) := by decide +kernel
theorem dX3_copy_40 : decode cX3_copy 40 = .ok (.aload_n 0, 1) := by decide +kernel
theorem dX3_copy_41 : decode cX3_copy 41 = .ok (.getfield 13, 3) := by decide +kernel
theorem dX3_copy_44 : decode cX3_copy 44 = .ok (.bipush 12, 2) := by decide +kernel
theorem dX3_copy_46 : decode cX3_copy 46 = .ok (.iload_n 1, 1) := by decide +kernel
theorem dX3_copy_47 : decode cX3_copy 47 = .ok (.imul, 1) := by decide +kernel
theorem dX3_copy_48 : decode cX3_copy 48 = .ok (.iload_n 3, 1) := by decide +kernel
theorem dX3_copy_49 : decode cX3_copy 49 = .ok (.iadd, 1) := by decide +kernel
theorem dX3_copy_50 : decode cX3_copy 50 = .ok (.laload, 1) := by decide +kernel
theorem dX3_copy_51 : decode cX3_copy 51 = .ok (.lastore, 1) := by decide +kernel
theorem dX3_copy_52 : decode cX3_copy 52 = .ok (.iinc 3 1, 3) := by decide +kernel
theorem dX3_copy_55 : decode cX3_copy 55 = .ok (.goto (-53), 3) := by decide +kernel
theorem dX3_copy_58 : decode cX3_copy 58 = .ok (.aload_n 0, 1) := by decide +kernel
theorem dX3_copy_59 : decode cX3_copy 59 = .ok (.getfield 16, 3) := by decide +kernel
theorem dX3_copy_62 : decode cX3_copy 62 = .ok (.iload_n 2, 1) := by decide +kernel
theorem dX3_copy_63 : decode cX3_copy 63 = .ok (.aload_n 0, 1) := by decide +kernel
theorem dX3_copy_64 : decode cX3_copy 64 = .ok (.getfield 16, 3) := by decide +kernel
theorem dX3_copy_67 : decode cX3_copy 67 = .ok (.iload_n 1, 1) := by decide +kernel
theorem dX3_copy_68 : decode cX3_copy 68 = .ok (.iaload, 1) := by decide +kernel
theorem dX3_copy_69 : decode cX3_copy 69 = .ok (.iastore, 1) := by decide +kernel
theorem dX3_copy_70 : decode cX3_copy 70 = .ok (.aload_n 0, 1) := by decide +kernel
theorem dX3_copy_71 : decode cX3_copy 71 = .ok (.getfield 20, 3) := by decide +kernel
theorem dX3_copy_74 : decode cX3_copy 74 = .ok (.iload_n 2, 1) := by decide +kernel
theorem dX3_copy_75 : decode cX3_copy 75 = .ok (.aload_n 0, 1) := by decide +kernel
theorem dX3_copy_76 : decode cX3_copy 76 = .ok (.getfield 20, 3) := by decide +kernel
theorem dX3_copy_79 : decode cX3_copy 79 = .ok (.iload_n 1, 1) := by decide +kernel
theorem dX3_copy_80 : decode cX3_copy 80 = .ok (.iaload, 1) := by decide +kernel
theorem dX3_copy_81 : decode cX3_copy 81 = .ok (.iastore, 1) := by decide +kernel
theorem dX3_copy_82 : decode cX3_copy 82 = .ok (.iconst 0, 1) := by decide +kernel
theorem dX3_copy_83 : decode cX3_copy 83 = .ok (.istore_n 3, 1) := by decide +kernel
theorem dX3_copy_84 : decode cX3_copy 84 = .ok (.iload_n 3, 1) := by decide +kernel
theorem dX3_copy_85 : decode cX3_copy 85 = .ok (.bipush 32, 2) := by decide +kernel
theorem dX3_copy_87 : decode cX3_copy 87 = .ok (.if_icmp .ge 25, 3) := by decide +kernel
theorem dX3_copy_90 : decode cX3_copy 90 = .ok (.aload_n 0, 1) := by decide +kernel
theorem dX3_copy_91 : decode cX3_copy 91 = .ok (.bipush 32, 2) := by decide +kernel
theorem dX3_copy_93 : decode cX3_copy 93 = .ok (.iload_n 1, 1) := by decide +kernel
theorem dX3_copy_94 : decode cX3_copy 94 = .ok (.imul, 1) := by decide +kernel
theorem dX3_copy_95 : decode cX3_copy 95 = .ok (.iload_n 3, 1) := by decide +kernel
theorem dX3_copy_96 : decode cX3_copy 96 = .ok (.iadd, 1) := by decide +kernel
theorem dX3_copy_97 : decode cX3_copy 97 = .ok (.bipush 32, 2) := by decide +kernel
theorem dX3_copy_99 : decode cX3_copy 99 = .ok (.iload_n 2, 1) := by decide +kernel
theorem dX3_copy_100 : decode cX3_copy 100 = .ok (.imul, 1) := by decide +kernel
theorem dX3_copy_101 : decode cX3_copy 101 = .ok (.iload_n 3, 1) := by decide +kernel
theorem dX3_copy_102 : decode cX3_copy 102 = .ok (.iadd, 1) := by decide +kernel
theorem dX3_copy_103 : decode cX3_copy 103 = .ok (.invokevirtual 53, 3) := by decide +kernel
theorem dX3_copy_106 : decode cX3_copy 106 = .ok (.iinc 3 1, 3) := by decide +kernel
theorem dX3_copy_109 : decode cX3_copy 109 = .ok (.goto (-25), 3) := by decide +kernel
theorem dX3_copy_112 : decode cX3_copy 112 = .ok (.return_, 1) := by decide +kernel
theorem dX3_copyTimed_0 : decode cX3_copyTimed 0 = .ok (.aload_n 0, 1) := by decide +kernel
theorem dX3_copyTimed_1 : decode cX3_copyTimed 1 = .ok (.getfield 23, 3) := by decide +kernel
theorem dX3_copyTimed_4 : decode cX3_copyTimed 4 = .ok (.iload_n 2, 1) := by decide +kernel
theorem dX3_copyTimed_5 : decode cX3_copyTimed 5 = .ok (.aload_n 0, 1) := by decide +kernel
theorem dX3_copyTimed_6 : decode cX3_copyTimed 6 = .ok (.getfield 23, 3) := by decide +kernel
theorem dX3_copyTimed_9 : decode cX3_copyTimed 9 = .ok (.iload_n 1, 1) := by decide +kernel
theorem dX3_copyTimed_10 : decode cX3_copyTimed 10 = .ok (.iaload, 1) := by decide +kernel
theorem dX3_copyTimed_11 : decode cX3_copyTimed 11 = .ok (.iastore, 1) := by decide +kernel
theorem dX3_copyTimed_12 : decode cX3_copyTimed 12 = .ok (.aload_n 0, 1) := by decide +kernel
theorem dX3_copyTimed_13 : decode cX3_copyTimed 13 = .ok (.getfield 26, 3) := by decide +kernel
theorem dX3_copyTimed_16 : decode cX3_copyTimed 16 = .ok (.iload_n 2, 1) := by decide +kernel
theorem dX3_copyTimed_17 : decode cX3_copyTimed 17 = .ok (.aload_n 0, 1) := by decide +kernel
theorem dX3_copyTimed_18 : decode cX3_copyTimed 18 = .ok (.getfield 26, 3) := by decide +kernel
theorem dX3_copyTimed_21 : decode cX3_copyTimed 21 = .ok (.iload_n 1, 1) := by decide +kernel
theorem dX3_copyTimed_22 : decode cX3_copyTimed 22 = .ok (.iaload, 1) := by decide +kernel
theorem dX3_copyTimed_23 : decode cX3_copyTimed 23 = .ok (.iastore, 1) := by decide +kernel
theorem dX3_copyTimed_24 : decode cX3_copyTimed 24 = .ok (.aload_n 0, 1) := by decide +kernel
theorem dX3_copyTimed_25 : decode cX3_copyTimed 25 = .ok (.getfield 29, 3) := by decide +kernel
theorem dX3_copyTimed_28 : decode cX3_copyTimed 28 = .ok (.iload_n 2, 1) := by decide +kernel
theorem dX3_copyTimed_29 : decode cX3_copyTimed 29 = .ok (.aload_n 0, 1) := by decide +kernel
theorem dX3_copyTimed_30 : decode cX3_copyTimed 30 = .ok (.getfield 29, 3) := by decide +kernel
theorem dX3_copyTimed_33 : decode cX3_copyTimed 33 = .ok (.iload_n 1, 1) := by decide +kernel
theorem dX3_copyTimed_34 : decode cX3_copyTimed 34 = .ok (.baload, 1) := by decide +kernel
theorem dX3_copyTimed_35 : decode cX3_copyTimed 35 = .ok (.bastore, 1) := by decide +kernel
theorem dX3_copyTimed_36 : decode cX3_copyTimed 36 = .ok (.return_, 1) := by decide +kernel
theorem dX3_isAfter_0 : decode cX3_isAfter 0 = .ok (.aload_n 0, 1) := by decide +kernel
theorem dX3_isAfter_1 : decode cX3_isAfter 1 = .ok (.getfield 23, 3) := by decide +kernel
theorem dX3_isAfter_4 : decode cX3_isAfter 4 = .ok (.iload_n 1, 1) := by decide +kernel
theorem dX3_isAfter_5 : decode cX3_isAfter 5 = .ok (.iaload, 1) := by decide +kernel
theorem dX3_isAfter_6 : decode cX3_isAfter 6 = .ok (.aload_n 0, 1) := by decide +kernel
theorem dX3_isAfter_7 : decode cX3_isAfter 7 = .ok (.getfield 23, 3) := by decide +kernel
theorem dX3_isAfter_10 : decode cX3_isAfter 10 = .ok (.iload_n 2, 1) := by decide +kernel
theorem dX3_isAfter_11 : decode cX3_isAfter 11 = .ok (.iaload, 1) := by decide +kernel
theorem dX3_isAfter_12 : decode cX3_isAfter 12 = .ok (.if_icmp .eq 24, 3) := by decide +kernel
theorem dX3_isAfter_15 : decode cX3_isAfter 15 = .ok (.aload_n 0, 1) := by decide +kernel
theorem dX3_isAfter_16 : decode cX3_isAfter 16 = .ok (.getfield 23, 3) := by decide +kernel
theorem dX3_isAfter_19 : decode cX3_isAfter 19 = .ok (.iload_n 1, 1) := by decide +kernel
theorem dX3_isAfter_20 : decode cX3_isAfter 20 = .ok (.iaload, 1) := by decide +kernel
theorem dX3_isAfter_21 : decode cX3_isAfter 21 = .ok (.aload_n 0, 1) := by decide +kernel
theorem dX3_isAfter_22 : decode cX3_isAfter 22 = .ok (.getfield 23, 3) := by decide +kernel
theorem dX3_isAfter_25 : decode cX3_isAfter 25 = .ok (.iload_n 2, 1) := by decide +kernel
theorem dX3_isAfter_26 : decode cX3_isAfter 26 = .ok (.iaload, 1) := by decide +kernel
theorem dX3_isAfter_27 : decode cX3_isAfter 27 = .ok (.if_icmp .le 7, 3) := by decide +kernel
theorem dX3_isAfter_30 : decode cX3_isAfter 30 = .ok (.iconst 1, 1) := by decide +kernel
theorem dX3_isAfter_31 : decode cX3_isAfter 31 = .ok (.goto 4, 3) := by decide +kernel
theorem dX3_isAfter_34 : decode cX3_isAfter 34 = .ok (.iconst 0, 1) := by decide +kernel
theorem dX3_isAfter_35 : decode cX3_isAfter 35 = .ok (.ireturn, 1) := by decide +kernel
theorem dX3_isAfter_36 : decode cX3_isAfter 36 = .ok (.aload_n 0, 1) := by decide +kernel
theorem dX3_isAfter_37 : decode cX3_isAfter 37 = .ok (.getfield 26, 3) := by decide +kernel
theorem dX3_isAfter_40 : decode cX3_isAfter 40 = .ok (.iload_n 1, 1) := by decide +kernel
theorem dX3_isAfter_41 : decode cX3_isAfter 41 = .ok (.iaload, 1) := by decide +kernel
theorem dX3_isAfter_42 : decode cX3_isAfter 42 = .ok (.aload_n 0, 1) := by decide +kernel
theorem dX3_isAfter_43 : decode cX3_isAfter 43 = .ok (.getfield 26, 3) := by decide +kernel
theorem dX3_isAfter_46 : decode cX3_isAfter 46 = .ok (.iload_n 2, 1) := by decide +kernel
theorem dX3_isAfter_47 : decode cX3_isAfter 47 = .ok (.iaload, 1) := by decide +kernel
theorem dX3_isAfter_48 : decode cX3_isAfter 48 = .ok (.if_icmp .eq 24, 3) := by decide +kernel
theorem dX3_isAfter_51 : decode cX3_isAfter 51 = .ok (.aload_n 0, 1) := by decide +kernel
theorem dX3_isAfter_52 : decode cX3_isAfter 52 = .ok (.getfield 26, 3) := by decide +kernel
theorem dX3_isAfter_55 : decode cX3_isAfter 55 = .ok (.iload_n 1, 1) := by decide +kernel
theorem dX3_isAfter_56 : decode cX3_isAfter 56 = .ok (.iaload, 1) := by decide +kernel
theorem dX3_isAfter_57 : decode cX3_isAfter 57 = .ok (.aload_n 0, 1) := by decide +kernel
theorem dX3_isAfter_58 : decode cX3_isAfter 58 = .ok (.getfield 26, 3) := by decide +kernel
theorem dX3_isAfter_61 : decode cX3_isAfter 61 = .ok (.iload_n 2, 1) := by decide +kernel
theorem dX3_isAfter_62 : decode cX3_isAfter 62 = .ok (.iaload, 1) := by decide +kernel
theorem dX3_isAfter_63 : decode cX3_isAfter 63 = .ok (.if_icmp .le 7, 3) := by decide +kernel
theorem dX3_isAfter_66 : decode cX3_isAfter 66 = .ok (.iconst 1, 1) := by decide +kernel
theorem dX3_isAfter_67 : decode cX3_isAfter 67 = .ok (.goto 4, 3) := by decide +kernel
theorem dX3_isAfter_70 : decode cX3_isAfter 70 = .ok (.iconst 0, 1) := by decide +kernel
theorem dX3_isAfter_71 : decode cX3_isAfter 71 = .ok (.ireturn, 1) := by decide +kernel
theorem dX3_isAfter_72 : decode cX3_isAfter 72 = .ok (.aload_n 0, 1) := by decide +kernel
theorem dX3_isAfter_73 : decode cX3_isAfter 73 = .ok (.getfield 29, 3) := by decide +kernel
theorem dX3_isAfter_76 : decode cX3_isAfter 76 = .ok (.iload_n 1, 1) := by decide +kernel
theorem dX3_isAfter_77 : decode cX3_isAfter 77 = .ok (.baload, 1) := by decide +kernel
theorem dX3_isAfter_78 : decode cX3_isAfter 78 = .ok (.ifCond .eq 16, 3) := by decide +kernel
theorem dX3_isAfter_81 : decode cX3_isAfter 81 = .ok (.aload_n 0, 1) := by decide +kernel
theorem dX3_isAfter_82 : decode cX3_isAfter 82 = .ok (.getfield 29, 3) := by decide +kernel
theorem dX3_isAfter_85 : decode cX3_isAfter 85 = .ok (.iload_n 2, 1) := by decide +kernel
theorem dX3_isAfter_86 : decode cX3_isAfter 86 = .ok (.baload, 1) := by decide +kernel
theorem dX3_isAfter_87 : decode cX3_isAfter 87 = .ok (.ifCond .ne 7, 3) := by decide +kernel
theorem dX3_isAfter_90 : decode cX3_isAfter 90 = .ok (.iconst 1, 1) := by decide +kernel
theorem dX3_isAfter_91 : decode cX3_isAfter 91 = .ok (.goto 4, 3) := by decide +kernel
theorem dX3_isAfter_94 : decode cX3_isAfter 94 = .ok (.iconst 0, 1) := by decide +kernel
theorem dX3_isAfter_95 : decode cX3_isAfter 95 = .ok (.ireturn, 1) := by decide +kernel
theorem dX3_isSame_0 : decode cX3_isSame 0 = .ok (.aload_n 0, 1) := by decide +kernel
theorem dX3_isSame_1 : decode cX3_isSame 1 = .ok (.getfield 16, 3) := by decide +kernel
theorem dX3_isSame_4 : decode cX3_isSame 4 = .ok (.iload_n 1, 1) := by decide +kernel
theorem dX3_isSame_5 : decode cX3_isSame 5 = .ok (.iaload, 1) := by decide +kernel
theorem dX3_isSame_6 : decode cX3_isSame 6 = .ok (.aload_n 0, 1) := by decide +kernel
theorem dX3_isSame_7 : decode cX3_isSame 7 = .ok (.getfield 16, 3) := by decide +kernel
theorem dX3_isSame_10 : decode cX3_isSame 10 = .ok (.iload_n 2, 1) := by decide +kernel
theorem dX3_isSame_11 : decode cX3_isSame 11 = .ok (.iaload, 1) := by decide +kernel
theorem dX3_isSame_12 : decode cX3_isSame 12 = .ok (.if_icmp .ne 22, 3) := by decide +kernel
theorem dX3_isSame_15 : decode cX3_isSame 15 = .ok (.aload_n 0, 1) := by decide +kernel
theorem dX3_isSame_16 : decode cX3_isSame 16 = .ok (.getfield 20, 3) := by decide +kernel
theorem dX3_isSame_19 : decode cX3_isSame 19 = .ok (.iload_n 1, 1) := by decide +kernel
theorem dX3_isSame_20 : decode cX3_isSame 20 = .ok (.iaload, 1) := by decide +kernel
theorem dX3_isSame_21 : decode cX3_isSame 21 = .ok (.aload_n 0, 1) := by decide +kernel
theorem dX3_isSame_22 : decode cX3_isSame 22 = .ok (.getfield 20, 3) := by decide +kernel
theorem dX3_isSame_25 : decode cX3_isSame 25 = .ok (.iload_n 2, 1) := by decide +kernel
theorem dX3_isSame_26 : decode cX3_isSame 26 = .ok (.iaload, 1) := by decide +kernel
theorem dX3_isSame_27 : decode cX3_isSame 27 = .ok (.if_icmp .ne 7, 3) := by decide +kernel
theorem dX3_isSame_30 : decode cX3_isSame 30 = .ok (.iconst 1, 1) := by decide +kernel
theorem dX3_isSame_31 : decode cX3_isSame 31 = .ok (.goto 4, 3) := by decide +kernel
theorem dX3_isSame_34 : decode cX3_isSame 34 = .ok (.iconst 0, 1) := by decide +kernel
theorem dX3_isSame_35 : decode cX3_isSame 35 = .ok (.istore_n 3, 1) := by decide +kernel
theorem dX3_isSame_36 : decode cX3_isSame 36 = .ok (.iconst 0, 1) := by decide +kernel
theorem dX3_isSame_37 : decode cX3_isSame 37 = .ok (.istore 4, 2) := by decide +kernel
theorem dX3_isSame_39 : decode cX3_isSame 39 = .ok (.iload 4, 2) := by decide +kernel
theorem dX3_isSame_41 : decode cX3_isSame 41 = .ok (.bipush 12, 2) := by decide +kernel
theorem dX3_isSame_43 : decode cX3_isSame 43 = .ok (.if_icmp .ge 75, 3) := by decide +kernel
theorem dX3_isSame_46 : decode cX3_isSame 46 = .ok (.iload_n 3, 1) := by decide +kernel
theorem dX3_isSame_47 : decode cX3_isSame 47 = .ok (.ifCond .eq 63, 3) := by decide +kernel
theorem dX3_isSame_50 : decode cX3_isSame 50 = .ok (.aload_n 0, 1) := by decide +kernel
theorem dX3_isSame_51 : decode cX3_isSame 51 = .ok (.getfield 7, 3) := by decide +kernel
theorem dX3_isSame_54 : decode cX3_isSame 54 = .ok (.bipush 12, 2) := by decide +kernel
theorem dX3_isSame_56 : decode cX3_isSame 56 = .ok (.iload_n 1, 1) := by decide +kernel
theorem dX3_isSame_57 : decode cX3_isSame 57 = .ok (.imul, 1) := by decide +kernel
theorem dX3_isSame_58 : decode cX3_isSame 58 = .ok (.iload 4, 2) := by decide +kernel
theorem dX3_isSame_60 : decode cX3_isSame 60 = .ok (.iadd, 1) := by decide +kernel
theorem dX3_isSame_61 : decode cX3_isSame 61 = .ok (.laload, 1) := by decide +kernel
theorem dX3_isSame_62 : decode cX3_isSame 62 = .ok (.aload_n 0, 1) := by decide +kernel
theorem dX3_isSame_63 : decode cX3_isSame 63 = .ok (.getfield 7, 3) := by decide +kernel
theorem dX3_isSame_66 : decode cX3_isSame 66 = .ok (.bipush 12, 2) := by decide +kernel
theorem dX3_isSame_68 : decode cX3_isSame 68 = .ok (.iload_n 2, 1) := by decide +kernel
theorem dX3_isSame_69 : decode cX3_isSame 69 = .ok (.imul, 1) := by decide +kernel
theorem dX3_isSame_70 : decode cX3_isSame 70 = .ok (.iload 4, 2) := by decide +kernel
theorem dX3_isSame_72 : decode cX3_isSame 72 = .ok (.iadd, 1) := by decide +kernel
theorem dX3_isSame_73 : decode cX3_isSame 73 = .ok (.laload, 1) := by decide +kernel
theorem dX3_isSame_74 : decode cX3_isSame 74 = .ok (.lcmp, 1) := by decide +kernel
theorem dX3_isSame_75 : decode cX3_isSame 75 = .ok (.ifCond .ne 35, 3) := by decide +kernel
theorem dX3_isSame_78 : decode cX3_isSame 78 = .ok (.aload_n 0, 1) := by decide +kernel
theorem dX3_isSame_79 : decode cX3_isSame 79 = .ok (.getfield 13, 3) := by decide +kernel
theorem dX3_isSame_82 : decode cX3_isSame 82 = .ok (.bipush 12, 2) := by decide +kernel
theorem dX3_isSame_84 : decode cX3_isSame 84 = .ok (.iload_n 1, 1) := by decide +kernel
theorem dX3_isSame_85 : decode cX3_isSame 85 = .ok (.imul, 1) := by decide +kernel
theorem dX3_isSame_86 : decode cX3_isSame 86 = .ok (.iload 4, 2) := by decide +kernel
theorem dX3_isSame_88 : decode cX3_isSame 88 = .ok (.iadd, 1) := by decide +kernel
theorem dX3_isSame_89 : decode cX3_isSame 89 = .ok (.laload, 1) := by decide +kernel
theorem dX3_isSame_90 : decode cX3_isSame 90 = .ok (.aload_n 0, 1) := by decide +kernel
theorem dX3_isSame_91 : decode cX3_isSame 91 = .ok (.getfield 13, 3) := by decide +kernel
theorem dX3_isSame_94 : decode cX3_isSame 94 = .ok (.bipush 12, 2) := by decide +kernel
theorem dX3_isSame_96 : decode cX3_isSame 96 = .ok (.iload_n 2, 1) := by decide +kernel
theorem dX3_isSame_97 : decode cX3_isSame 97 = .ok (.imul, 1) := by decide +kernel
theorem dX3_isSame_98 : decode cX3_isSame 98 = .ok (.iload 4, 2) := by decide +kernel
theorem dX3_isSame_100 : decode cX3_isSame 100 = .ok (.iadd, 1) := by decide +kernel
theorem dX3_isSame_101 : decode cX3_isSame 101 = .ok (.laload, 1) := by decide +kernel
theorem dX3_isSame_102 : decode cX3_isSame 102 = .ok (.lcmp, 1) := by decide +kernel
theorem dX3_isSame_103 : decode cX3_isSame 103 = .ok (.ifCond .ne 7, 3) := by decide +kernel
theorem dX3_isSame_106 : decode cX3_isSame 106 = .ok (.iconst 1, 1) := by decide +kernel
theorem dX3_isSame_107 : decode cX3_isSame 107 = .ok (.goto 4, 3) := by decide +kernel
theorem dX3_isSame_110 : decode cX3_isSame 110 = .ok (.iconst 0, 1) := by decide +kernel
theorem dX3_isSame_111 : decode cX3_isSame 111 = .ok (.istore_n 3, 1) := by decide +kernel
theorem dX3_isSame_112 : decode cX3_isSame 112 = .ok (.iinc 4 1, 3) := by decide +kernel
theorem dX3_isSame_115 : decode cX3_isSame 115 = .ok (.goto (-76), 3) := by decide +kernel
theorem dX3_isSame_118 : decode cX3_isSame 118 = .ok (.iconst 0, 1) := by decide +kernel
theorem dX3_isSame_119 : decode cX3_isSame 119 = .ok (.istore 4, 2) := by decide +kernel
theorem dX3_isSame_121 : decode cX3_isSame 121 = .ok (.iload 4, 2) := by decide +kernel
theorem dX3_isSame_123 : decode cX3_isSame 123 = .ok (.bipush 32, 2) := by decide +kernel
theorem dX3_isSame_125 : decode cX3_isSame 125 = .ok (.if_icmp .ge 88, 3) := by decide +kernel
theorem dX3_isSame_128 : decode cX3_isSame 128 = .ok (.bipush 32, 2) := by decide +kernel
theorem dX3_isSame_130 : decode cX3_isSame 130 = .ok (.iload_n 1, 1) := by decide +kernel
theorem dX3_isSame_131 : decode cX3_isSame 131 = .ok (.imul, 1) := by decide +kernel
theorem dX3_isSame_132 : decode cX3_isSame 132 = .ok (.iload 4, 2) := by decide +kernel
theorem dX3_isSame_134 : decode cX3_isSame 134 = .ok (.iadd, 1) := by decide +kernel
theorem dX3_isSame_135 : decode cX3_isSame 135 = .ok (.istore 5, 2) := by decide +kernel
theorem dX3_isSame_137 : decode cX3_isSame 137 = .ok (.bipush 32, 2) := by decide +kernel
theorem dX3_isSame_139 : decode cX3_isSame 139 = .ok (.iload_n 2, 1) := by decide +kernel
theorem dX3_isSame_140 : decode cX3_isSame 140 = .ok (.imul, 1) := by decide +kernel
theorem dX3_isSame_141 : decode cX3_isSame 141 = .ok (.iload 4, 2) := by decide +kernel
theorem dX3_isSame_143 : decode cX3_isSame 143 = .ok (.iadd, 1) := by decide +kernel
theorem dX3_isSame_144 : decode cX3_isSame 144 = .ok (.istore 6, 2) := by decide +kernel
theorem dX3_isSame_146 : decode cX3_isSame 146 = .ok (.iload_n 3, 1) := by decide +kernel
theorem dX3_isSame_147 : decode cX3_isSame 147 = .ok (.ifCond .eq 58, 3) := by decide +kernel
theorem dX3_isSame_150 : decode cX3_isSame 150 = .ok (.aload_n 0, 1) := by decide +kernel
theorem dX3_isSame_151 : decode cX3_isSame 151 = .ok (.getfield 23, 3) := by decide +kernel
theorem dX3_isSame_154 : decode cX3_isSame 154 = .ok (.iload 5, 2) := by decide +kernel
theorem dX3_isSame_156 : decode cX3_isSame 156 = .ok (.iaload, 1) := by decide +kernel
theorem dX3_isSame_157 : decode cX3_isSame 157 = .ok (.aload_n 0, 1) := by decide +kernel
theorem dX3_isSame_158 : decode cX3_isSame 158 = .ok (.getfield 23, 3) := by decide +kernel
theorem dX3_isSame_161 : decode cX3_isSame 161 = .ok (.iload 6, 2) := by decide +kernel
theorem dX3_isSame_163 : decode cX3_isSame 163 = .ok (.iaload, 1) := by decide +kernel
theorem dX3_isSame_164 : decode cX3_isSame 164 = .ok (.if_icmp .ne 41, 3) := by decide +kernel
theorem dX3_isSame_167 : decode cX3_isSame 167 = .ok (.aload_n 0, 1) := by decide +kernel
theorem dX3_isSame_168 : decode cX3_isSame 168 = .ok (.getfield 26, 3) := by decide +kernel
theorem dX3_isSame_171 : decode cX3_isSame 171 = .ok (.iload 5, 2) := by decide +kernel
theorem dX3_isSame_173 : decode cX3_isSame 173 = .ok (.iaload, 1) := by decide +kernel
theorem dX3_isSame_174 : decode cX3_isSame 174 = .ok (.aload_n 0, 1) := by decide +kernel
theorem dX3_isSame_175 : decode cX3_isSame 175 = .ok (.getfield 26, 3) := by decide +kernel
theorem dX3_isSame_178 : decode cX3_isSame 178 = .ok (.iload 6, 2) := by decide +kernel
theorem dX3_isSame_180 : decode cX3_isSame 180 = .ok (.iaload, 1) := by decide +kernel
theorem dX3_isSame_181 : decode cX3_isSame 181 = .ok (.if_icmp .ne 24, 3) := by decide +kernel
theorem dX3_isSame_184 : decode cX3_isSame 184 = .ok (.aload_n 0, 1) := by decide +kernel
theorem dX3_isSame_185 : decode cX3_isSame 185 = .ok (.getfield 29, 3) := by decide +kernel
theorem dX3_isSame_188 : decode cX3_isSame 188 = .ok (.iload 5, 2) := by decide +kernel
theorem dX3_isSame_190 : decode cX3_isSame 190 = .ok (.baload, 1) := by decide +kernel
theorem dX3_isSame_191 : decode cX3_isSame 191 = .ok (.aload_n 0, 1) := by decide +kernel
theorem dX3_isSame_192 : decode cX3_isSame 192 = .ok (.getfield 29, 3) := by decide +kernel
theorem dX3_isSame_195 : decode cX3_isSame 195 = .ok (.iload 6, 2) := by decide +kernel
theorem dX3_isSame_197 : decode cX3_isSame 197 = .ok (.baload, 1) := by decide +kernel
theorem dX3_isSame_198 : decode cX3_isSame 198 = .ok (.if_icmp .ne 7, 3) := by decide +kernel
theorem dX3_isSame_201 : decode cX3_isSame 201 = .ok (.iconst 1, 1) := by decide +kernel
theorem dX3_isSame_202 : decode cX3_isSame 202 = .ok (.goto 4, 3) := by decide +kernel
theorem dX3_isSame_205 : decode cX3_isSame 205 = .ok (.iconst 0, 1) := by decide +kernel
theorem dX3_isSame_206 : decode cX3_isSame 206 = .ok (.istore_n 3, 1) := by decide +kernel
theorem dX3_isSame_207 : decode cX3_isSame 207 = .ok (.iinc 4 1, 3) := by decide +kernel
theorem dX3_isSame_210 : decode cX3_isSame 210 = .ok (.goto (-89), 3) := by decide +kernel
theorem dX3_isSame_213 : decode cX3_isSame 213 = .ok (.iload_n 3, 1) := by decide +kernel
theorem dX3_isSame_214 : decode cX3_isSame 214 = .ok (.ireturn, 1) := by decide +kernel
set_option maxRecDepth 20000 in
theorem ggX3_joinTo_X3_isAfter : GoodIn wsX3_joinTo wsX3_isAfter := goodIn_r _ [10, 11, 12, 13, 18, 19, 20, 21, 22, 23, 24, 25, 26, 27, 28, 29, 30, 31] (by decide +kernel) (by decide +kernel)
set_option maxRecDepth 20000 in
theorem gX3_joinTo_X3_isAfter : GoodIn wsX3_joinTo (wsV RX3 59 RX3 yX3_isAfter wsX3_isAfter) := goodIn_app (goodIn_of _ (by decide +kernel)) ggX3_joinTo_X3_isAfter
set_option maxRecDepth 20000 in
theorem ggX3_joinTo_X3_copyTimed : GoodIn wsX3_joinTo wsX3_copyTimed := goodIn_r _ [17, 11, 12, 13, 18, 19, 20, 21, 22, 23, 24, 25, 26, 27, 28, 29, 30, 31] (by decide +kernel) (by decide +kernel)
set_option maxRecDepth 20000 in
theorem gX3_joinTo_X3_copyTimed : GoodIn wsX3_joinTo (wsV RX3 53 RX3 yX3_copyTimed wsX3_copyTimed) := goodIn_app (goodIn_of _ (by decide +kernel)) ggX3_joinTo_X3_copyTimed
theorem dX3_joinTo_0 : decode cX3_joinTo 0 = .ok (.iconst 0, 1) := by decide +kernel
theorem dX3_joinTo_1 : decode cX3_joinTo 1 = .ok (.istore_n 3, 1) := by decide +kernel
theorem dX3_joinTo_2 : decode cX3_joinTo 2 = .ok (.iload_n 3, 1) := by decide +kernel
theorem dX3_joinTo_3 : decode cX3_joinTo 3 = .ok (.bipush 12, 2) := by decide +kernel
theorem dX3_joinTo_5 : decode cX3_joinTo 5 = .ok (.if_icmp .ge 109, 3) := by decide +kernel
theorem dX3_joinTo_8 : decode cX3_joinTo 8 = .ok (.bipush 12, 2) := by decide +kernel
theorem dX3_joinTo_10 : decode cX3_joinTo 10 = .ok (.iload_n 1, 1) := by decide +kernel
theorem dX3_joinTo_11 : decode cX3_joinTo 11 = .ok (.imul, 1) := by decide +kernel
theorem dX3_joinTo_12 : decode cX3_joinTo 12 = .ok (.iload_n 3, 1) := by decide +kernel
theorem dX3_joinTo_13 : decode cX3_joinTo 13 = .ok (.iadd, 1) := by decide +kernel
theorem dX3_joinTo_14 : decode cX3_joinTo 14 = .ok (.istore 4, 2) := by decide +kernel
theorem dX3_joinTo_16 : decode cX3_joinTo 16 = .ok (.bipush 12, 2) := by decide +kernel
theorem dX3_joinTo_18 : decode cX3_joinTo 18 = .ok (.iload_n 2, 1) := by decide +kernel
theorem dX3_joinTo_19 : decode cX3_joinTo 19 = .ok (.imul, 1) := by decide +kernel
theorem dX3_joinTo_20 : decode cX3_joinTo 20 = .ok (.iload_n 3, 1) := by decide +kernel
theorem dX3_joinTo_21 : decode cX3_joinTo 21 = .ok (.iadd, 1) := by decide +kernel
theorem dX3_joinTo_22 : decode cX3_joinTo 22 = .ok (.istore 5, 2) := by decide +kernel
theorem dX3_joinTo_24 : decode cX3_joinTo 24 = .ok (.aload_n 0, 1) := by decide +kernel
theorem dX3_joinTo_25 : decode cX3_joinTo 25 = .ok (.getfield 13, 3) := by decide +kernel
theorem dX3_joinTo_28 : decode cX3_joinTo 28 = .ok (.iload 5, 2) := by decide +kernel
theorem dX3_joinTo_30 : decode cX3_joinTo 30 = .ok (.aload_n 0, 1) := by decide +kernel
theorem dX3_joinTo_31 : decode cX3_joinTo 31 = .ok (.getfield 13, 3) := by decide +kernel
theorem dX3_joinTo_34 : decode cX3_joinTo 34 = .ok (.iload 4, 2) := by decide +kernel
theorem dX3_joinTo_36 : decode cX3_joinTo 36 = .ok (.laload, 1) := by decide +kernel
theorem dX3_joinTo_37 : decode cX3_joinTo 37 = .ok (.aload_n 0, 1) := by decide +kernel
theorem dX3_joinTo_38 : decode cX3_joinTo 38 = .ok (.getfield 13, 3) := by decide +kernel
theorem dX3_joinTo_41 : decode cX3_joinTo 41 = .ok (.iload 5, 2) := by decide +kernel
theorem dX3_joinTo_43 : decode cX3_joinTo 43 = .ok (.laload, 1) := by decide +kernel
theorem dX3_joinTo_44 : decode cX3_joinTo 44 = .ok (.land, 1) := by decide +kernel
theorem dX3_joinTo_45 : decode cX3_joinTo 45 = .ok (.aload_n 0, 1) := by decide +kernel
theorem dX3_joinTo_46 : decode cX3_joinTo 46 = .ok (.getfield 13, 3) := by decide +kernel
theorem dX3_joinTo_49 : decode cX3_joinTo 49 = .ok (.iload 4, 2) := by decide +kernel
end
section
theorem dX3_joinTo_51 : decode cX3_joinTo 51 = .ok (.laload, 1) := by decide +kernel
theorem dX3_joinTo_52 : decode cX3_joinTo 52 = .ok (.aload_n 0, 1) := by decide +kernel
theorem dX3_joinTo_53 : decode cX3_joinTo 53 = .ok (.getfield 7, 3) := by decide +kernel
theorem dX3_joinTo_56 : decode cX3_joinTo 56 = .ok (.iload 5, 2) := by decide +kernel
theorem dX3_joinTo_58 : decode cX3_joinTo 58 = .ok (.laload, 1) := by decide +kernel
theorem dX3_joinTo_59 : decode cX3_joinTo 59 = .ok (.ldc2_w 57, 3) := by decide +kernel
theorem dX3_joinTo_62 : decode cX3_joinTo 62 = .ok (.lxor, 1) := by decide +kernel
theorem dX3_joinTo_63 : decode cX3_joinTo 63 = .ok (.land, 1) := by decide +kernel
theorem dX3_joinTo_64 : decode cX3_joinTo 64 = .ok (.lor, 1) := by decide +kernel
theorem dX3_joinTo_65 : decode cX3_joinTo 65 = .ok (.aload_n 0, 1) := by decide +kernel
theorem dX3_joinTo_66 : decode cX3_joinTo 66 = .ok (.getfield 13, 3) := by decide +kernel
theorem dX3_joinTo_69 : decode cX3_joinTo 69 = .ok (.iload 5, 2) := by decide +kernel
theorem dX3_joinTo_71 : decode cX3_joinTo 71 = .ok (.laload, 1) := by decide +kernel
theorem dX3_joinTo_72 : decode cX3_joinTo 72 = .ok (.aload_n 0, 1) := by decide +kernel
theorem dX3_joinTo_73 : decode cX3_joinTo 73 = .ok (.getfield 7, 3) := by decide +kernel
theorem dX3_joinTo_76 : decode cX3_joinTo 76 = .ok (.iload 4, 2) := by decide +kernel
theorem dX3_joinTo_78 : decode cX3_joinTo 78 = .ok (.laload, 1) := by decide +kernel
theorem dX3_joinTo_79 : decode cX3_joinTo 79 = .ok (.ldc2_w 57, 3) := by decide +kernel
theorem dX3_joinTo_82 : decode cX3_joinTo 82 = .ok (.lxor, 1) := by decide +kernel
theorem dX3_joinTo_83 : decode cX3_joinTo 83 = .ok (.land, 1) := by decide +kernel
theorem dX3_joinTo_84 : decode cX3_joinTo 84 = .ok (.lor, 1) := by decide +kernel
theorem dX3_joinTo_85 : decode cX3_joinTo 85 = .ok (.lastore, 1) := by decide +kernel
theorem dX3_joinTo_86 : decode cX3_joinTo 86 = .ok (.aload_n 0, 1) := by decide +kernel
theorem dX3_joinTo_87 : decode cX3_joinTo 87 = .ok (.getfield 7, 3) := by decide +kernel
theorem dX3_joinTo_90 : decode cX3_joinTo 90 = .ok (.iload 5, 2) := by decide +kernel
theorem dX3_joinTo_92 : decode cX3_joinTo 92 = .ok (.aload_n 0, 1) := by decide +kernel
theorem dX3_joinTo_93 : decode cX3_joinTo 93 = .ok (.getfield 7, 3) := by decide +kernel
theorem dX3_joinTo_96 : decode cX3_joinTo 96 = .ok (.iload 4, 2) := by decide +kernel
theorem dX3_joinTo_98 : decode cX3_joinTo 98 = .ok (.laload, 1) := by decide +kernel
theorem dX3_joinTo_99 : decode cX3_joinTo 99 = .ok (.aload_n 0, 1) := by decide +kernel
theorem dX3_joinTo_100 : decode cX3_joinTo 100 = .ok (.getfield 7, 3) := by decide +kernel
theorem dX3_joinTo_103 : decode cX3_joinTo 103 = .ok (.iload 5, 2) := by decide +kernel
theorem dX3_joinTo_105 : decode cX3_joinTo 105 = .ok (.laload, 1) := by decide +kernel
theorem dX3_joinTo_106 : decode cX3_joinTo 106 = .ok (.lor, 1) := by decide +kernel
theorem dX3_joinTo_107 : decode cX3_joinTo 107 = .ok (.lastore, 1) := by decide +kernel
theorem dX3_joinTo_108 : decode cX3_joinTo 108 = .ok (.iinc 3 1, 3) := by decide +kernel
theorem dX3_joinTo_111 : decode cX3_joinTo 111 = .ok (.goto (-109), 3) := by decide +kernel
theorem dX3_joinTo_114 : decode cX3_joinTo 114 = .ok (.aload_n 0, 1) := by decide +kernel
theorem dX3_joinTo_115 : decode cX3_joinTo 115 = .ok (.getfield 16, 3) := by decide +kernel
theorem dX3_joinTo_118 : decode cX3_joinTo 118 = .ok (.iload_n 2, 1) := by decide +kernel
theorem dX3_joinTo_119 : decode cX3_joinTo 119 = .ok (.aload_n 0, 1) := by decide +kernel
theorem dX3_joinTo_120 : decode cX3_joinTo 120 = .ok (.getfield 16, 3) := by decide +kernel
theorem dX3_joinTo_123 : decode cX3_joinTo 123 = .ok (.iload_n 2, 1) := by decide +kernel
theorem dX3_joinTo_124 : decode cX3_joinTo 124 = .ok (.iaload, 1) := by decide +kernel
theorem dX3_joinTo_125 : decode cX3_joinTo 125 = .ok (.aload_n 0, 1) := by decide +kernel
theorem dX3_joinTo_126 : decode cX3_joinTo 126 = .ok (.getfield 16, 3) := by decide +kernel
theorem dX3_joinTo_129 : decode cX3_joinTo 129 = .ok (.iload_n 1, 1) := by decide +kernel
theorem dX3_joinTo_130 : decode cX3_joinTo 130 = .ok (.iaload, 1) := by decide +kernel
theorem dX3_joinTo_131 : decode cX3_joinTo 131 = .ok (.ior, 1) := by decide +kernel
theorem dX3_joinTo_132 : decode cX3_joinTo 132 = .ok (.iastore, 1) := by decide +kernel
theorem dX3_joinTo_133 : decode cX3_joinTo 133 = .ok (.aload_n 0, 1) := by decide +kernel
theorem dX3_joinTo_134 : decode cX3_joinTo 134 = .ok (.getfield 20, 3) := by decide +kernel
theorem dX3_joinTo_137 : decode cX3_joinTo 137 = .ok (.iload_n 2, 1) := by decide +kernel
theorem dX3_joinTo_138 : decode cX3_joinTo 138 = .ok (.aload_n 0, 1) := by decide +kernel
theorem dX3_joinTo_139 : decode cX3_joinTo 139 = .ok (.getfield 20, 3) := by decide +kernel
theorem dX3_joinTo_142 : decode cX3_joinTo 142 = .ok (.iload_n 2, 1) := by decide +kernel
theorem dX3_joinTo_143 : decode cX3_joinTo 143 = .ok (.iaload, 1) := by decide +kernel
theorem dX3_joinTo_144 : decode cX3_joinTo 144 = .ok (.aload_n 0, 1) := by decide +kernel
theorem dX3_joinTo_145 : decode cX3_joinTo 145 = .ok (.getfield 20, 3) := by decide +kernel
theorem dX3_joinTo_148 : decode cX3_joinTo 148 = .ok (.iload_n 1, 1) := by decide +kernel
theorem dX3_joinTo_149 : decode cX3_joinTo 149 = .ok (.iaload, 1) := by decide +kernel
theorem dX3_joinTo_150 : decode cX3_joinTo 150 = .ok (.ior, 1) := by decide +kernel
theorem dX3_joinTo_151 : decode cX3_joinTo 151 = .ok (.iastore, 1) := by decide +kernel
theorem dX3_joinTo_152 : decode cX3_joinTo 152 = .ok (.iconst 0, 1) := by decide +kernel
theorem dX3_joinTo_153 : decode cX3_joinTo 153 = .ok (.istore_n 3, 1) := by decide +kernel
theorem dX3_joinTo_154 : decode cX3_joinTo 154 = .ok (.iload_n 3, 1) := by decide +kernel
theorem dX3_joinTo_155 : decode cX3_joinTo 155 = .ok (.bipush 32, 2) := by decide +kernel
theorem dX3_joinTo_157 : decode cX3_joinTo 157 = .ok (.if_icmp .ge 44, 3) := by decide +kernel
theorem dX3_joinTo_160 : decode cX3_joinTo 160 = .ok (.bipush 32, 2) := by decide +kernel
theorem dX3_joinTo_162 : decode cX3_joinTo 162 = .ok (.iload_n 1, 1) := by decide +kernel
theorem dX3_joinTo_163 : decode cX3_joinTo 163 = .ok (.imul, 1) := by decide +kernel
theorem dX3_joinTo_164 : decode cX3_joinTo 164 = .ok (.iload_n 3, 1) := by decide +kernel
theorem dX3_joinTo_165 : decode cX3_joinTo 165 = .ok (.iadd, 1) := by decide +kernel
theorem dX3_joinTo_166 : decode cX3_joinTo 166 = .ok (.istore 4, 2) := by decide +kernel
theorem dX3_joinTo_168 : decode cX3_joinTo 168 = .ok (.bipush 32, 2) := by decide +kernel
theorem dX3_joinTo_170 : decode cX3_joinTo 170 = .ok (.iload_n 2, 1) := by decide +kernel
theorem dX3_joinTo_171 : decode cX3_joinTo 171 = .ok (.imul, 1) := by decide +kernel
theorem dX3_joinTo_172 : decode cX3_joinTo 172 = .ok (.iload_n 3, 1) := by decide +kernel
theorem dX3_joinTo_173 : decode cX3_joinTo 173 = .ok (.iadd, 1) := by decide +kernel
theorem dX3_joinTo_174 : decode cX3_joinTo 174 = .ok (.istore 5, 2) := by decide +kernel
theorem dX3_joinTo_176 : decode cX3_joinTo 176 = .ok (.aload_n 0, 1) := by decide +kernel
theorem dX3_joinTo_177 : decode cX3_joinTo 177 = .ok (.iload 4, 2) := by decide +kernel
theorem dX3_joinTo_179 : decode cX3_joinTo 179 = .ok (.iload 5, 2) := by decide +kernel
theorem dX3_joinTo_181 : decode cX3_joinTo 181 = .ok (.invokevirtual 59, 3) := by decide +kernel
theorem dX3_joinTo_184 : decode cX3_joinTo 184 = .ok (.ifCond .eq 11, 3) := by decide +kernel
theorem dX3_joinTo_187 : decode cX3_joinTo 187 = .ok (.aload_n 0, 1) := by decide +kernel
theorem dX3_joinTo_188 : decode cX3_joinTo 188 = .ok (.iload 4, 2) := by decide +kernel
theorem dX3_joinTo_190 : decode cX3_joinTo 190 = .ok (.iload 5, 2) := by decide +kernel
theorem dX3_joinTo_192 : decode cX3_joinTo 192 = .ok (.invokevirtual 53, 3) := by decide +kernel
theorem dX3_joinTo_195 : decode cX3_joinTo 195 = .ok (.iinc 3 1, 3) := by decide +kernel
theorem dX3_joinTo_198 : decode cX3_joinTo 198 = .ok (.goto (-44), 3) := by decide +kernel
theorem dX3_joinTo_201 : decode cX3_joinTo 201 = .ok (.return_, 1) := by decide +kernel
set_option maxRecDepth 20000 in
theorem ggX3_joined_X3_copy : GoodIn wsX3_joined wsX3_copy := goodIn_r _ [5, 6, 7, 8, 9, 10, 11, 12, 4, 13, 14, 15, 16, 30, 31, 32, 33, 34, 35, 36, 37, 38, 39, 40, 41, 42, 43] (by decide +kernel) (by decide +kernel)
set_option maxRecDepth 20000 in
theorem gX3_joined_X3_copy : GoodIn wsX3_joined (wsV RX3 63 RX3 yX3_copy wsX3_copy) := goodIn_app (goodIn_of _ (by decide +kernel)) ggX3_joined_X3_copy
set_option maxRecDepth 20000 in
theorem ggX3_joined_X3_joinTo : GoodIn wsX3_joined wsX3_joinTo := goodIn_r _ [20, 7, 6, 21, 8, 9, 22, 23, 24, 4, 25, 14, 15, 16, 10, 11, 12, 13, 30, 31, 32, 33, 34, 35, 36, 37, 38, 39, 40, 41, 42, 43] (by decide +kernel) (by decide +kernel)
set_option maxRecDepth 20000 in
theorem gX3_joined_X3_joinTo : GoodIn wsX3_joined (wsV RX3 66 RX3 yX3_joinTo wsX3_joinTo) := goodIn_app (goodIn_of _ (by decide +kernel)) ggX3_joined_X3_joinTo
set_option maxRecDepth 20000 in
theorem ggX3_joined_X3_isSame : GoodIn wsX3_joined wsX3_isSame := goodIn_r _ [29, 8, 9, 6, 7, 14, 15, 16, 30, 31, 32, 33, 34, 35, 36, 37, 38, 39, 40, 41, 42, 43] (by decide +kernel) (by decide +kernel)
set_option maxRecDepth 20000 in
theorem gX3_joined_X3_isSame : GoodIn wsX3_joined (wsV RX3 69 RX3 yX3_isSame wsX3_isSame) := goodIn_app (goodIn_of _ (by decide +kernel)) ggX3_joined_X3_isSame
theorem dX3_joined_0 : decode cX3_joined 0 = .ok (.aload_n 0, 1) := by decide +kernel
theorem dX3_joined_1 : decode cX3_joined 1 = .ok (.iload_n 2, 1) := by decide +kernel
theorem dX3_joined_2 : decode cX3_joined 2 = .ok (.sipush 256, 3) := by decide +kernel
theorem dX3_joined_5 : decode cX3_joined 5 = .ok (.invokevirtual 63, 3) := by decide +kernel
theorem dX3_joined_8 : decode cX3_joined 8 = .ok (.aload_n 0, 1) := by decide +kernel
theorem dX3_joined_9 : decode cX3_joined 9 = .ok (.iload_n 1, 1) := by decide +kernel
theorem dX3_joined_10 : decode cX3_joined 10 = .ok (.iload_n 2, 1) := by decide +kernel
theorem dX3_joined_11 : decode cX3_joined 11 = .ok (.invokevirtual 66, 3) := by decide +kernel
theorem dX3_joined_14 : decode cX3_joined 14 = .ok (.aload_n 0, 1) := by decide +kernel
theorem dX3_joined_15 : decode cX3_joined 15 = .ok (.iload_n 2, 1) := by decide +kernel
theorem dX3_joined_16 : decode cX3_joined 16 = .ok (.sipush 256, 3) := by decide +kernel
theorem dX3_joined_19 : decode cX3_joined 19 = .ok (.invokevirtual 69, 3) := by decide +kernel
theorem dX3_joined_22 : decode cX3_joined 22 = .ok (.ifCond .eq 7, 3) := by decide +kernel
theorem dX3_joined_25 : decode cX3_joined 25 = .ok (.iconst 0, 1) := by decide +kernel
theorem dX3_joined_26 : decode cX3_joined 26 = .ok (.goto 4, 3) := by decide +kernel
theorem dX3_joined_29 : decode cX3_joined 29 = .ok (.iconst 1, 1) := by decide +kernel
theorem dX3_joined_30 : decode cX3_joined 30 = .ok (.ireturn, 1) := by decide +kernel
set_option maxRecDepth 20000 in
theorem ggX3_fresh_X3_empty : GoodIn wsX3_fresh wsX3_empty := goodIn_r _ [6, 7, 8, 9, 10, 11, 12, 13, 14, 15, 16, 17, 18, 19, 20, 21, 22, 23, 24, 25, 26, 27] (by decide +kernel) (by decide +kernel)
set_option maxRecDepth 20000 in
theorem gX3_fresh_X3_empty : GoodIn wsX3_fresh (wsV RX3 75 RX3 yX3_empty wsX3_empty) := goodIn_app (goodIn_of _ (by decide +kernel)) ggX3_fresh_X3_empty
theorem dX3_fresh_0 : decode cX3_fresh 0 = .ok (.bipush 6, 2) := by decide +kernel
theorem dX3_fresh_2 : decode cX3_fresh 2 = .ok (.aload_n 0, 1) := by decide +kernel
theorem dX3_fresh_3 : decode cX3_fresh 3 = .ok (.getfield 72, 3) := by decide +kernel
theorem dX3_fresh_6 : decode cX3_fresh 6 = .ok (.iadd, 1) := by decide +kernel
theorem dX3_fresh_7 : decode cX3_fresh 7 = .ok (.istore_n 1, 1) := by decide +kernel
theorem dX3_fresh_8 : decode cX3_fresh 8 = .ok (.aload_n 0, 1) := by decide +kernel
theorem dX3_fresh_9 : decode cX3_fresh 9 = .ok (.iload_n 1, 1) := by decide +kernel
theorem dX3_fresh_10 : decode cX3_fresh 10 = .ok (.invokevirtual 75, 3) := by decide +kernel
theorem dX3_fresh_13 : decode cX3_fresh 13 = .ok (.iload_n 1, 1) := by decide +kernel
theorem dX3_fresh_14 : decode cX3_fresh 14 = .ok (.ireturn, 1) := by decide +kernel
set_option maxRecDepth 20000 in
theorem ggX3_done_X3_joinTo : GoodIn wsX3_done wsX3_joinTo := goodIn_r _ [6, 7, 8, 9, 10, 11, 12, 13, 14, 5, 15, 16, 17, 18, 19, 20, 21, 22, 23, 24, 25, 26, 27, 28, 29, 30, 31, 32, 33, 34, 35, 36] (by decide +kernel) (by decide +kernel)
set_option maxRecDepth 20000 in
theorem gX3_done_X3_joinTo : GoodIn wsX3_done (wsV RX3 66 RX3 yX3_joinTo wsX3_joinTo) := goodIn_app (goodIn_of _ (by decide +kernel)) ggX3_done_X3_joinTo
theorem dX3_done_0 : decode cX3_done 0 = .ok (.aload_n 0, 1) := by decide +kernel
theorem dX3_done_1 : decode cX3_done 1 = .ok (.iload_n 2, 1) := by decide +kernel
theorem dX3_done_2 : decode cX3_done 2 = .ok (.iload_n 1, 1) := by decide +kernel
theorem dX3_done_3 : decode cX3_done 3 = .ok (.invokevirtual 66, 3) := by decide +kernel
theorem dX3_done_6 : decode cX3_done 6 = .ok (.aload_n 0, 1) := by decide +kernel
theorem dX3_done_7 : decode cX3_done 7 = .ok (.dup, 1) := by decide +kernel
theorem dX3_done_8 : decode cX3_done 8 = .ok (.getfield 72, 3) := by decide +kernel
theorem dX3_done_11 : decode cX3_done 11 = .ok (.iconst 1, 1) := by decide +kernel
theorem dX3_done_12 : decode cX3_done 12 = .ok (.iadd, 1) := by decide +kernel
theorem dX3_done_13 : decode cX3_done 13 = .ok (.putfield 72, 3) := by decide +kernel
theorem dX3_done_16 : decode cX3_done 16 = .ok (.aload_n 0, 1) := by decide +kernel
theorem dX3_done_17 : decode cX3_done 17 = .ok (.getfield 72, 3) := by decide +kernel
theorem dX3_done_20 : decode cX3_done 20 = .ok (.iconst 1, 1) := by decide +kernel
theorem dX3_done_21 : decode cX3_done 21 = .ok (.isub, 1) := by decide +kernel
theorem dX3_done_22 : decode cX3_done 22 = .ok (.ireturn, 1) := by decide +kernel
set_option maxRecDepth 20000 in
theorem ggX3_isReplica_X3_in : GoodIn wsX3_isReplica wsX3_in := goodIn_r _ [4] (by decide +kernel) (by decide +kernel)
set_option maxRecDepth 20000 in
theorem gX3_isReplica_X3_in : GoodIn wsX3_isReplica (va_wsS RX3 79 yX3_in wsX3_in) := goodIn_app (goodIn_of _ (by decide +kernel)) ggX3_isReplica_X3_in
theorem dX3_isReplica_0 : decode cX3_isReplica 0 = .ok (.iload_n 1, 1) := by decide +kernel
theorem dX3_isReplica_1 : decode cX3_isReplica 1 = .ok (.iconst 0, 1) := by decide +kernel
theorem dX3_isReplica_2 : decode cX3_isReplica 2 = .ok (.iconst 5, 1) := by decide +kernel
theorem dX3_isReplica_3 : decode cX3_isReplica 3 = .ok (.invokestatic 79, 3) := by decide +kernel
theorem dX3_isReplica_6 : decode cX3_isReplica 6 = .ok (.ireturn, 1) := by decide +kernel
set_option maxRecDepth 20000 in
theorem ggX3_isKey_X3_in : GoodIn wsX3_isKey wsX3_in := goodIn_r _ [4] (by decide +kernel) (by decide +kernel)
set_option maxRecDepth 20000 in
theorem gX3_isKey_X3_in : GoodIn wsX3_isKey (va_wsS RX3 79 yX3_in wsX3_in) := goodIn_app (goodIn_of _ (by decide +kernel)) ggX3_isKey_X3_in
theorem dX3_isKey_0 : decode cX3_isKey 0 = .ok (.iload_n 0, 1) := by decide +kernel
theorem dX3_isKey_1 : decode cX3_isKey 1 = .ok (.iconst 0, 1) := by decide +kernel
theorem dX3_isKey_2 : decode cX3_isKey 2 = .ok (.bipush 15, 2) := by decide +kernel
theorem dX3_isKey_4 : decode cX3_isKey 4 = .ok (.invokestatic 79, 3) := by decide +kernel
theorem dX3_isKey_7 : decode cX3_isKey 7 = .ok (.ireturn, 1) := by decide +kernel
set_option maxRecDepth 20000 in
theorem ggX3_isElement_X3_in : GoodIn wsX3_isElement wsX3_in := goodIn_r _ [4] (by decide +kernel) (by decide +kernel)
set_option maxRecDepth 20000 in
theorem gX3_isElement_X3_in : GoodIn wsX3_isElement (va_wsS RX3 79 yX3_in wsX3_in) := goodIn_app (goodIn_of _ (by decide +kernel)) ggX3_isElement_X3_in
theorem dX3_isElement_0 : decode cX3_isElement 0 = .ok (.iload_n 0, 1) := by decide +kernel
theorem dX3_isElement_1 : decode cX3_isElement 1 = .ok (.iconst 0, 1) := by decide +kernel
theorem dX3_isElement_2 : decode cX3_isElement 2 = .ok (.bipush 31, 2) := by decide +kernel
theorem dX3_isElement_4 : decode cX3_isElement 4 = .ok (.invokestatic 79, 3) := by decide +kernel
theorem dX3_isElement_7 : decode cX3_isElement 7 = .ok (.ireturn, 1) := by decide +kernel
set_option maxRecDepth 20000 in
theorem ggX3_takeBack_X3_dot : GoodIn wsX3_takeBack wsX3_dot := goodIn_r _ [9] (by decide +kernel) (by decide +kernel)
set_option maxRecDepth 20000 in
theorem gX3_takeBack_X3_dot : GoodIn wsX3_takeBack (va_wsS RX3 83 yX3_dot wsX3_dot) := goodIn_app (goodIn_of _ (by decide +kernel)) ggX3_takeBack_X3_dot
set_option maxRecDepth 20000 in
theorem ggX3_takeBack_X3_isSet : GoodIn wsX3_takeBack wsX3_isSet := goodIn_r _ [12] (by decide +kernel) (by decide +kernel)
set_option maxRecDepth 20000 in
theorem gX3_takeBack_X3_isSet : GoodIn wsX3_takeBack (va_wsS RX3 49 yX3_isSet wsX3_isSet) := goodIn_app (goodIn_of _ (by decide +kernel)) ggX3_takeBack_X3_isSet
set_option maxRecDepth 20000 in
theorem ggX3_takeBack_X3_set : GoodIn wsX3_takeBack wsX3_set := goodIn_r _ [15] (by decide +kernel) (by decide +kernel)
set_option maxRecDepth 20000 in
theorem gX3_takeBack_X3_set : GoodIn wsX3_takeBack (va_wsS RX3 87 yX3_set wsX3_set) := goodIn_app (goodIn_of _ (by decide +kernel)) ggX3_takeBack_X3_set
theorem dX3_takeBack_0 : decode cX3_takeBack 0 = .ok (.lconst 0, 1) := by decide +kernel
theorem dX3_takeBack_1 : decode cX3_takeBack 1 = .ok (.lstore 6, 2) := by decide +kernel
theorem dX3_takeBack_3 : decode cX3_takeBack 3 = .ok (.iconst 0, 1) := by decide +kernel
theorem dX3_takeBack_4 : decode cX3_takeBack 4 = .ok (.istore 8, 2) := by decide +kernel
theorem dX3_takeBack_6 : decode cX3_takeBack 6 = .ok (.iload 8, 2) := by decide +kernel
theorem dX3_takeBack_8 : decode cX3_takeBack 8 = .ok (.bipush 6, 2) := by decide +kernel
theorem dX3_takeBack_10 : decode cX3_takeBack 10 = .ok (.if_icmp .ge 127, 3) := by decide +kernel
theorem dX3_takeBack_13 : decode cX3_takeBack 13 = .ok (.iconst 1, 1) := by decide +kernel
theorem dX3_takeBack_14 : decode cX3_takeBack 14 = .ok (.istore 9, 2) := by decide +kernel
theorem dX3_takeBack_16 : decode cX3_takeBack 16 = .ok (.iload 9, 2) := by decide +kernel
theorem dX3_takeBack_18 : decode cX3_takeBack 18 = .ok (.bipush 100, 2) := by decide +kernel
theorem dX3_takeBack_20 : decode cX3_takeBack 20 = .ok (.if_icmp .gt 111, 3) := by decide +kernel
theorem dX3_takeBack_23 : decode cX3_takeBack 23 = .ok (.iload 8, 2) := by decide +kernel
theorem dX3_takeBack_25 : decode cX3_takeBack 25 = .ok (.iload 9, 2) := by decide +kernel
theorem dX3_takeBack_27 : decode cX3_takeBack 27 = .ok (.invokestatic 83, 3) := by decide +kernel
theorem dX3_takeBack_30 : decode cX3_takeBack 30 = .ok (.istore 10, 2) := by decide +kernel
theorem dX3_takeBack_32 : decode cX3_takeBack 32 = .ok (.aload_n 0, 1) := by decide +kernel
theorem dX3_takeBack_33 : decode cX3_takeBack 33 = .ok (.getfield 13, 3) := by decide +kernel
theorem dX3_takeBack_36 : decode cX3_takeBack 36 = .ok (.iload_n 1, 1) := by decide +kernel
theorem dX3_takeBack_37 : decode cX3_takeBack 37 = .ok (.iload 8, 2) := by decide +kernel
theorem dX3_takeBack_39 : decode cX3_takeBack 39 = .ok (.iload 9, 2) := by decide +kernel
theorem dX3_takeBack_41 : decode cX3_takeBack 41 = .ok (.invokestatic 49, 3) := by decide +kernel
theorem dX3_takeBack_44 : decode cX3_takeBack 44 = .ok (.ifCond .eq 49, 3) := by decide +kernel
theorem dX3_takeBack_47 : decode cX3_takeBack 47 = .ok (.aload_n 0, 1) := by decide +kernel
theorem dX3_takeBack_48 : decode cX3_takeBack 48 = .ok (.getfield 33, 3) := by decide +kernel
theorem dX3_takeBack_51 : decode cX3_takeBack 51 = .ok (.iload 10, 2) := by decide +kernel
theorem dX3_takeBack_53 : decode cX3_takeBack 53 = .ok (.iaload, 1) := by decide +kernel
theorem dX3_takeBack_54 : decode cX3_takeBack 54 = .ok (.iload_n 3, 1) := by decide +kernel
theorem dX3_takeBack_55 : decode cX3_takeBack 55 = .ok (.if_icmp .ne 38, 3) := by decide +kernel
theorem dX3_takeBack_58 : decode cX3_takeBack 58 = .ok (.iload 4, 2) := by decide +kernel
theorem dX3_takeBack_60 : decode cX3_takeBack 60 = .ok (.iconst (-1), 1) := by decide +kernel
theorem dX3_takeBack_61 : decode cX3_takeBack 61 = .ok (.if_icmp .eq 15, 3) := by decide +kernel
theorem dX3_takeBack_64 : decode cX3_takeBack 64 = .ok (.aload_n 0, 1) := by decide +kernel
theorem dX3_takeBack_65 : decode cX3_takeBack 65 = .ok (.getfield 36, 3) := by decide +kernel
theorem dX3_takeBack_68 : decode cX3_takeBack 68 = .ok (.iload 10, 2) := by decide +kernel
theorem dX3_takeBack_70 : decode cX3_takeBack 70 = .ok (.iaload, 1) := by decide +kernel
theorem dX3_takeBack_71 : decode cX3_takeBack 71 = .ok (.iload 4, 2) := by decide +kernel
theorem dX3_takeBack_73 : decode cX3_takeBack 73 = .ok (.if_icmp .ne 20, 3) := by decide +kernel
theorem dX3_takeBack_76 : decode cX3_takeBack 76 = .ok (.iload 5, 2) := by decide +kernel
theorem dX3_takeBack_78 : decode cX3_takeBack 78 = .ok (.iconst (-1), 1) := by decide +kernel
theorem dX3_takeBack_79 : decode cX3_takeBack 79 = .ok (.if_icmp .eq 10, 3) := by decide +kernel
theorem dX3_takeBack_82 : decode cX3_takeBack 82 = .ok (.iload 8, 2) := by decide +kernel
theorem dX3_takeBack_84 : decode cX3_takeBack 84 = .ok (.iload 5, 2) := by decide +kernel
theorem dX3_takeBack_86 : decode cX3_takeBack 86 = .ok (.if_icmp .ne 7, 3) := by decide +kernel
theorem dX3_takeBack_89 : decode cX3_takeBack 89 = .ok (.iconst 1, 1) := by decide +kernel
theorem dX3_takeBack_90 : decode cX3_takeBack 90 = .ok (.goto 4, 3) := by decide +kernel
theorem dX3_takeBack_93 : decode cX3_takeBack 93 = .ok (.iconst 0, 1) := by decide +kernel
theorem dX3_takeBack_94 : decode cX3_takeBack 94 = .ok (.istore 11, 2) := by decide +kernel
theorem dX3_takeBack_96 : decode cX3_takeBack 96 = .ok (.iload 11, 2) := by decide +kernel
theorem dX3_takeBack_98 : decode cX3_takeBack 98 = .ok (.ifCond .eq 27, 3) := by decide +kernel
theorem dX3_takeBack_101 : decode cX3_takeBack 101 = .ok (.aload_n 0, 1) := by decide +kernel
theorem dX3_takeBack_102 : decode cX3_takeBack 102 = .ok (.getfield 7, 3) := by decide +kernel
theorem dX3_takeBack_105 : decode cX3_takeBack 105 = .ok (.iload_n 2, 1) := by decide +kernel
theorem dX3_takeBack_106 : decode cX3_takeBack 106 = .ok (.iload 8, 2) := by decide +kernel
theorem dX3_takeBack_108 : decode cX3_takeBack 108 = .ok (.iload 9, 2) := by decide +kernel
theorem dX3_takeBack_110 : decode cX3_takeBack 110 = .ok (.invokestatic 87, 3) := by decide +kernel
theorem dX3_takeBack_113 : decode cX3_takeBack 113 = .ok (.lload 6, 2) := by decide +kernel
theorem dX3_takeBack_115 : decode cX3_takeBack 115 = .ok (.aload_n 0, 1) := by decide +kernel
theorem dX3_takeBack_116 : decode cX3_takeBack 116 = .ok (.getfield 39, 3) := by decide +kernel
theorem dX3_takeBack_119 : decode cX3_takeBack 119 = .ok (.iload 10, 2) := by decide +kernel
theorem dX3_takeBack_121 : decode cX3_takeBack 121 = .ok (.laload, 1) := by decide +kernel
theorem dX3_takeBack_122 : decode cX3_takeBack 122 = .ok (.ladd, 1) := by decide +kernel
theorem dX3_takeBack_123 : decode cX3_takeBack 123 = .ok (.lstore 6, 2) := by decide +kernel
theorem dX3_takeBack_125 : decode cX3_takeBack 125 = .ok (.iinc 9 1, 3) := by decide +kernel
theorem dX3_takeBack_128 : decode cX3_takeBack 128 = .ok (.goto (-112), 3) := by decide +kernel
theorem dX3_takeBack_131 : decode cX3_takeBack 131 = .ok (.iinc 8 1, 3) := by decide +kernel
theorem dX3_takeBack_134 : decode cX3_takeBack 134 = .ok (.goto (-128), 3) := by decide +kernel
theorem dX3_takeBack_137 : decode cX3_takeBack 137 = .ok (.lload 6, 2) := by decide +kernel
theorem dX3_takeBack_139 : decode cX3_takeBack 139 = .ok (.lreturn, 1) := by decide +kernel
set_option maxRecDepth 20000 in
theorem ggX3_newDot_X3_greatest : GoodIn wsX3_newDot wsX3_greatest := goodIn_r _ [10, 4, 11, 12, 9, 13, 20, 21, 22, 23, 24, 25, 26, 27, 28, 29, 30, 31, 32, 33] (by decide +kernel) (by decide +kernel)
set_option maxRecDepth 20000 in
theorem gX3_newDot_X3_greatest : GoodIn wsX3_newDot (wsV RX3 91 RX3 yX3_greatest wsX3_greatest) := goodIn_app (goodIn_of _ (by decide +kernel)) ggX3_newDot_X3_greatest
set_option maxRecDepth 20000 in
theorem ggX3_newDot_X3_dot : GoodIn wsX3_newDot wsX3_dot := goodIn_r _ [16] (by decide +kernel) (by decide +kernel)
set_option maxRecDepth 20000 in
theorem gX3_newDot_X3_dot : GoodIn wsX3_newDot (va_wsS RX3 83 yX3_dot wsX3_dot) := goodIn_app (goodIn_of _ (by decide +kernel)) ggX3_newDot_X3_dot
set_option maxRecDepth 20000 in
theorem ggX3_newDot_X3_set : GoodIn wsX3_newDot wsX3_set := goodIn_r _ [19] (by decide +kernel) (by decide +kernel)
set_option maxRecDepth 20000 in
theorem gX3_newDot_X3_set : GoodIn wsX3_newDot (va_wsS RX3 87 yX3_set wsX3_set) := goodIn_app (goodIn_of _ (by decide +kernel)) ggX3_newDot_X3_set
theorem dX3_newDot_0 : decode cX3_newDot 0 = .ok (.aload_n 0, 1) := by decide +kernel
theorem dX3_newDot_1 : decode cX3_newDot 1 = .ok (.iload_n 1, 1) := by decide +kernel
theorem dX3_newDot_2 : decode cX3_newDot 2 = .ok (.iload_n 1, 1) := by decide +kernel
theorem dX3_newDot_3 : decode cX3_newDot 3 = .ok (.invokevirtual 91, 3) := by decide +kernel
theorem dX3_newDot_6 : decode cX3_newDot 6 = .ok (.iconst 1, 1) := by decide +kernel
theorem dX3_newDot_7 : decode cX3_newDot 7 = .ok (.iadd, 1) := by decide +kernel
theorem dX3_newDot_8 : decode cX3_newDot 8 = .ok (.istore 7, 2) := by decide +kernel
theorem dX3_newDot_10 : decode cX3_newDot 10 = .ok (.iload_n 1, 1) := by decide +kernel
theorem dX3_newDot_11 : decode cX3_newDot 11 = .ok (.iload 7, 2) := by decide +kernel
theorem dX3_newDot_13 : decode cX3_newDot 13 = .ok (.invokestatic 83, 3) := by decide +kernel
theorem dX3_newDot_16 : decode cX3_newDot 16 = .ok (.istore 8, 2) := by decide +kernel
theorem dX3_newDot_18 : decode cX3_newDot 18 = .ok (.aload_n 0, 1) := by decide +kernel
theorem dX3_newDot_19 : decode cX3_newDot 19 = .ok (.getfield 33, 3) := by decide +kernel
theorem dX3_newDot_22 : decode cX3_newDot 22 = .ok (.iload 8, 2) := by decide +kernel
theorem dX3_newDot_24 : decode cX3_newDot 24 = .ok (.iload_n 3, 1) := by decide +kernel
theorem dX3_newDot_25 : decode cX3_newDot 25 = .ok (.iastore, 1) := by decide +kernel
theorem dX3_newDot_26 : decode cX3_newDot 26 = .ok (.aload_n 0, 1) := by decide +kernel
theorem dX3_newDot_27 : decode cX3_newDot 27 = .ok (.getfield 36, 3) := by decide +kernel
theorem dX3_newDot_30 : decode cX3_newDot 30 = .ok (.iload 8, 2) := by decide +kernel
theorem dX3_newDot_32 : decode cX3_newDot 32 = .ok (.iload 4, 2) := by decide +kernel
theorem dX3_newDot_34 : decode cX3_newDot 34 = .ok (.iastore, 1) := by decide +kernel
theorem dX3_newDot_35 : decode cX3_newDot 35 = .ok (.aload_n 0, 1) := by decide +kernel
theorem dX3_newDot_36 : decode cX3_newDot 36 = .ok (.getfield 39, 3) := by decide +kernel
theorem dX3_newDot_39 : decode cX3_newDot 39 = .ok (.iload 8, 2) := by decide +kernel
theorem dX3_newDot_41 : decode cX3_newDot 41 = .ok (.lload 5, 2) := by decide +kernel
theorem dX3_newDot_43 : decode cX3_newDot 43 = .ok (.lastore, 1) := by decide +kernel
theorem dX3_newDot_44 : decode cX3_newDot 44 = .ok (.aload_n 0, 1) := by decide +kernel
theorem dX3_newDot_45 : decode cX3_newDot 45 = .ok (.getfield 7, 3) := by decide +kernel
theorem dX3_newDot_48 : decode cX3_newDot 48 = .ok (.iload_n 2, 1) := by decide +kernel
theorem dX3_newDot_49 : decode cX3_newDot 49 = .ok (.iload_n 1, 1) := by decide +kernel
theorem dX3_newDot_50 : decode cX3_newDot 50 = .ok (.iload 7, 2) := by decide +kernel
theorem dX3_newDot_52 : decode cX3_newDot 52 = .ok (.invokestatic 87, 3) := by decide +kernel
theorem dX3_newDot_55 : decode cX3_newDot 55 = .ok (.aload_n 0, 1) := by decide +kernel
theorem dX3_newDot_56 : decode cX3_newDot 56 = .ok (.getfield 13, 3) := by decide +kernel
theorem dX3_newDot_59 : decode cX3_newDot 59 = .ok (.iload_n 2, 1) := by decide +kernel
theorem dX3_newDot_60 : decode cX3_newDot 60 = .ok (.iload_n 1, 1) := by decide +kernel
theorem dX3_newDot_61 : decode cX3_newDot 61 = .ok (.iload 7, 2) := by decide +kernel
theorem dX3_newDot_63 : decode cX3_newDot 63 = .ok (.invokestatic 87, 3) := by decide +kernel
theorem dX3_newDot_66 : decode cX3_newDot 66 = .ok (.return_, 1) := by decide +kernel
set_option maxRecDepth 20000 in
theorem ggX3_hasRoom_X3_greatest : GoodIn wsX3_hasRoom wsX3_greatest := goodIn_r _ [6, 7, 8, 9, 5, 10, 11, 12, 13, 14, 15, 16, 17, 18, 19, 20, 21, 22, 23, 24] (by decide +kernel) (by decide +kernel)
set_option maxRecDepth 20000 in
theorem gX3_hasRoom_X3_greatest : GoodIn wsX3_hasRoom (wsV RX3 91 RX3 yX3_greatest wsX3_greatest) := goodIn_app (goodIn_of _ (by decide +kernel)) ggX3_hasRoom_X3_greatest
theorem dX3_hasRoom_0 : decode cX3_hasRoom 0 = .ok (.aload_n 0, 1) := by decide +kernel
theorem dX3_hasRoom_1 : decode cX3_hasRoom 1 = .ok (.getfield 72, 3) := by decide +kernel
theorem dX3_hasRoom_4 : decode cX3_hasRoom 4 = .ok (.sipush 250, 3) := by decide +kernel
theorem dX3_hasRoom_7 : decode cX3_hasRoom 7 = .ok (.if_icmp .ge 22, 3) := by decide +kernel
theorem dX3_hasRoom_10 : decode cX3_hasRoom 10 = .ok (.iload_n 2, 1) := by decide +kernel
theorem dX3_hasRoom_11 : decode cX3_hasRoom 11 = .ok (.ifCond .eq 14, 3) := by decide +kernel
theorem dX3_hasRoom_14 : decode cX3_hasRoom 14 = .ok (.aload_n 0, 1) := by decide +kernel
theorem dX3_hasRoom_15 : decode cX3_hasRoom 15 = .ok (.iload_n 1, 1) := by decide +kernel
theorem dX3_hasRoom_16 : decode cX3_hasRoom 16 = .ok (.iload_n 1, 1) := by decide +kernel
theorem dX3_hasRoom_17 : decode cX3_hasRoom 17 = .ok (.invokevirtual 91, 3) := by decide +kernel
theorem dX3_hasRoom_20 : decode cX3_hasRoom 20 = .ok (.bipush 100, 2) := by decide +kernel
theorem dX3_hasRoom_22 : decode cX3_hasRoom 22 = .ok (.if_icmp .ge 7, 3) := by decide +kernel
theorem dX3_hasRoom_25 : decode cX3_hasRoom 25 = .ok (.iconst 1, 1) := by decide +kernel
theorem dX3_hasRoom_26 : decode cX3_hasRoom 26 = .ok (.goto 4, 3) := by decide +kernel
theorem dX3_hasRoom_29 : decode cX3_hasRoom 29 = .ok (.iconst 0, 1) := by decide +kernel
theorem dX3_hasRoom_30 : decode cX3_hasRoom 30 = .ok (.ireturn, 1) := by decide +kernel
set_option maxRecDepth 20000 in
theorem ggX3_refusal_X3_isReplica : GoodIn wsX3_refusal wsX3_isReplica := goodIn_r _ [5, 6, 7, 4, 8] (by decide +kernel) (by decide +kernel)
set_option maxRecDepth 20000 in
theorem gX3_refusal_X3_isReplica : GoodIn wsX3_refusal (wsV RX3 94 RX3 yX3_isReplica wsX3_isReplica) := goodIn_app (goodIn_of _ (by decide +kernel)) ggX3_refusal_X3_isReplica
set_option maxRecDepth 20000 in
theorem ggX3_refusal_X3_isKey : GoodIn wsX3_refusal wsX3_isKey := goodIn_r _ [11, 6, 7, 4, 8] (by decide +kernel) (by decide +kernel)
set_option maxRecDepth 20000 in
theorem gX3_refusal_X3_isKey : GoodIn wsX3_refusal (va_wsS RX3 98 yX3_isKey wsX3_isKey) := goodIn_app (goodIn_of _ (by decide +kernel)) ggX3_refusal_X3_isKey
set_option maxRecDepth 20000 in
theorem ggX3_refusal_X3_hasRoom : GoodIn wsX3_refusal wsX3_hasRoom := goodIn_r _ [15, 16, 17, 18, 19, 4, 20, 21, 22, 23, 24, 25, 26, 27, 28, 29, 30, 31, 32, 33, 34, 35, 36, 37, 38] (by decide +kernel) (by decide +kernel)
set_option maxRecDepth 20000 in
theorem gX3_refusal_X3_hasRoom : GoodIn wsX3_refusal (wsV RX3 101 RX3 yX3_hasRoom wsX3_hasRoom) := goodIn_app (goodIn_of _ (by decide +kernel)) ggX3_refusal_X3_hasRoom
theorem dX3_refusal_0 : decode cX3_refusal 0 = .ok (.aload_n 0, 1) := by decide +kernel
theorem dX3_refusal_1 : decode cX3_refusal 1 = .ok (.iload_n 1, 1) := by decide +kernel
theorem dX3_refusal_2 : decode cX3_refusal 2 = .ok (.invokevirtual 94, 3) := by decide +kernel
theorem dX3_refusal_5 : decode cX3_refusal 5 = .ok (.ifCond .eq 14, 3) := by decide +kernel
theorem dX3_refusal_8 : decode cX3_refusal 8 = .ok (.iload_n 2, 1) := by decide +kernel
theorem dX3_refusal_9 : decode cX3_refusal 9 = .ok (.invokestatic 98, 3) := by decide +kernel
theorem dX3_refusal_12 : decode cX3_refusal 12 = .ok (.ifCond .eq 7, 3) := by decide +kernel
theorem dX3_refusal_15 : decode cX3_refusal 15 = .ok (.iload_n 3, 1) := by decide +kernel
theorem dX3_refusal_16 : decode cX3_refusal 16 = .ok (.ifCond .ne 5, 3) := by decide +kernel
theorem dX3_refusal_19 : decode cX3_refusal 19 = .ok (.iconst 1, 1) := by decide +kernel
theorem dX3_refusal_20 : decode cX3_refusal 20 = .ok (.ireturn, 1) := by decide +kernel
theorem dX3_refusal_21 : decode cX3_refusal 21 = .ok (.iload_n 2, 1) := by decide +kernel
theorem dX3_refusal_22 : decode cX3_refusal 22 = .ok (.iconst 4, 1) := by decide +kernel
theorem dX3_refusal_23 : decode cX3_refusal 23 = .ok (.irem, 1) := by decide +kernel
theorem dX3_refusal_24 : decode cX3_refusal 24 = .ok (.iload 4, 2) := by decide +kernel
theorem dX3_refusal_26 : decode cX3_refusal 26 = .ok (.if_icmp .eq 7, 3) := by decide +kernel
theorem dX3_refusal_29 : decode cX3_refusal 29 = .ok (.iconst 2, 1) := by decide +kernel
theorem dX3_refusal_30 : decode cX3_refusal 30 = .ok (.goto 18, 3) := by decide +kernel
theorem dX3_refusal_33 : decode cX3_refusal 33 = .ok (.aload_n 0, 1) := by decide +kernel
theorem dX3_refusal_34 : decode cX3_refusal 34 = .ok (.iload_n 1, 1) := by decide +kernel
theorem dX3_refusal_35 : decode cX3_refusal 35 = .ok (.iload 5, 2) := by decide +kernel
theorem dX3_refusal_37 : decode cX3_refusal 37 = .ok (.invokevirtual 101, 3) := by decide +kernel
theorem dX3_refusal_40 : decode cX3_refusal 40 = .ok (.ifCond .eq 7, 3) := by decide +kernel
theorem dX3_refusal_43 : decode cX3_refusal 43 = .ok (.iconst 0, 1) := by decide +kernel
theorem dX3_refusal_44 : decode cX3_refusal 44 = .ok (.goto 4, 3) := by decide +kernel
theorem dX3_refusal_47 : decode cX3_refusal 47 = .ok (.iconst 3, 1) := by decide +kernel
theorem dX3_refusal_48 : decode cX3_refusal 48 = .ok (.ireturn, 1) := by decide +kernel
set_option maxRecDepth 20000 in
theorem ggX3_change_X3_fresh : GoodIn wsX3_change wsX3_fresh := goodIn_r _ [5, 6, 7, 8, 9, 4, 10, 11, 12, 13, 14, 15, 16, 17, 59, 60, 61, 62, 63, 64, 65, 66, 67, 68, 69, 70, 71, 72] (by decide +kernel) (by decide +kernel)
set_option maxRecDepth 20000 in
theorem gX3_change_X3_fresh : GoodIn wsX3_change (wsV RX3 105 RX3 yX3_fresh wsX3_fresh) := goodIn_app (goodIn_of _ (by decide +kernel)) ggX3_change_X3_fresh
set_option maxRecDepth 20000 in
theorem ggX3_change_X3_takeBack : GoodIn wsX3_change wsX3_takeBack := goodIn_r _ [21, 12, 22, 23, 11, 24, 25, 26, 4, 27, 28, 29, 30, 31, 32, 33, 59, 60, 61, 62, 63, 64, 65, 66, 67, 68, 69, 70, 71, 72] (by decide +kernel) (by decide +kernel)
set_option maxRecDepth 20000 in
theorem gX3_change_X3_takeBack : GoodIn wsX3_change (wsV RX3 109 RX3 yX3_takeBack wsX3_takeBack) := goodIn_app (goodIn_of _ (by decide +kernel)) ggX3_change_X3_takeBack
set_option maxRecDepth 20000 in
theorem ggX3_change_X3_newDot : GoodIn wsX3_change wsX3_newDot := goodIn_r _ [37, 22, 23, 24, 11, 12, 38, 39, 40, 4, 41, 28, 29, 30, 25, 26, 27, 31, 32, 33, 59, 60, 61, 62, 63, 64, 65, 66, 67, 68, 69, 70, 71, 72] (by decide +kernel) (by decide +kernel)
set_option maxRecDepth 20000 in
theorem gX3_change_X3_newDot : GoodIn wsX3_change (wsV RX3 113 RX3 yX3_newDot wsX3_newDot) := goodIn_app (goodIn_of _ (by decide +kernel)) ggX3_change_X3_newDot
set_option maxRecDepth 20000 in
theorem ggX3_change_X3_done : GoodIn wsX3_change wsX3_done := goodIn_r _ [45, 6, 46, 47, 48, 4, 49, 12, 11, 50, 13, 14, 51, 52, 53, 54, 15, 16, 17, 55, 56, 57, 58, 59, 60, 61, 62, 63, 64, 65, 66, 67, 68, 69, 70, 71, 72] (by decide +kernel) (by decide +kernel)
set_option maxRecDepth 20000 in
theorem gX3_change_X3_done : GoodIn wsX3_change (wsV RX3 117 RX3 yX3_done wsX3_done) := goodIn_app (goodIn_of _ (by decide +kernel)) ggX3_change_X3_done
theorem dX3_change_0 : decode cX3_change 0 = .ok (.aload_n 0, 1) := by decide +kernel
theorem dX3_change_1 : decode cX3_change 1 = .ok (.invokevirtual 105, 3) := by decide +kernel
theorem dX3_change_4 : decode cX3_change 4 = .ok (.istore 5, 2) := by decide +kernel
theorem dX3_change_6 : decode cX3_change 6 = .ok (.aload_n 0, 1) := by decide +kernel
theorem dX3_change_7 : decode cX3_change 7 = .ok (.iload_n 1, 1) := by decide +kernel
theorem dX3_change_8 : decode cX3_change 8 = .ok (.iload 5, 2) := by decide +kernel
theorem dX3_change_10 : decode cX3_change 10 = .ok (.iload_n 2, 1) := by decide +kernel
theorem dX3_change_11 : decode cX3_change 11 = .ok (.iload_n 3, 1) := by decide +kernel
theorem dX3_change_12 : decode cX3_change 12 = .ok (.iconst (-1), 1) := by decide +kernel
theorem dX3_change_13 : decode cX3_change 13 = .ok (.invokevirtual 109, 3) := by decide +kernel
theorem dX3_change_16 : decode cX3_change 16 = .ok (.pop2, 1) := by decide +kernel
theorem dX3_change_17 : decode cX3_change 17 = .ok (.iload 4, 2) := by decide +kernel
theorem dX3_change_19 : decode cX3_change 19 = .ok (.ifCond .eq 13, 3) := by decide +kernel
theorem dX3_change_22 : decode cX3_change 22 = .ok (.aload_n 0, 1) := by decide +kernel
theorem dX3_change_23 : decode cX3_change 23 = .ok (.iload_n 1, 1) := by decide +kernel
theorem dX3_change_24 : decode cX3_change 24 = .ok (.iload 5, 2) := by decide +kernel
theorem dX3_change_26 : decode cX3_change 26 = .ok (.iload_n 2, 1) := by decide +kernel
theorem dX3_change_27 : decode cX3_change 27 = .ok (.iload_n 3, 1) := by decide +kernel
theorem dX3_change_28 : decode cX3_change 28 = .ok (.lconst 0, 1) := by decide +kernel
theorem dX3_change_29 : decode cX3_change 29 = .ok (.invokevirtual 113, 3) := by decide +kernel
theorem dX3_change_32 : decode cX3_change 32 = .ok (.aload_n 0, 1) := by decide +kernel
theorem dX3_change_33 : decode cX3_change 33 = .ok (.iload_n 1, 1) := by decide +kernel
theorem dX3_change_34 : decode cX3_change 34 = .ok (.iload 5, 2) := by decide +kernel
theorem dX3_change_36 : decode cX3_change 36 = .ok (.invokevirtual 117, 3) := by decide +kernel
theorem dX3_change_39 : decode cX3_change 39 = .ok (.ireturn, 1) := by decide +kernel
set_option maxRecDepth 20000 in
theorem ggX3_element_X3_isElement : GoodIn wsX3_element wsX3_isElement := goodIn_r _ [5, 6, 7, 4, 8] (by decide +kernel) (by decide +kernel)
set_option maxRecDepth 20000 in
theorem gX3_element_X3_isElement : GoodIn wsX3_element (va_wsS RX3 120 yX3_isElement wsX3_isElement) := goodIn_app (goodIn_of _ (by decide +kernel)) ggX3_element_X3_isElement
set_option maxRecDepth 20000 in
theorem ggX3_element_X3_refusal : GoodIn wsX3_element wsX3_refusal := goodIn_r _ [12, 13, 14, 15, 4, 16, 6, 7, 8, 17, 18, 19, 20, 21, 22, 23, 24, 25, 26, 27, 28, 29, 30, 31, 32, 85, 86, 87, 88, 89, 90, 91, 92, 93, 94, 95, 96, 97, 98] (by decide +kernel) (by decide +kernel)
set_option maxRecDepth 20000 in
theorem gX3_element_X3_refusal : GoodIn wsX3_element (wsV RX3 123 RX3 yX3_refusal wsX3_refusal) := goodIn_app (goodIn_of _ (by decide +kernel)) ggX3_element_X3_refusal
set_option maxRecDepth 20000 in
theorem ggX3_element_X3_change : GoodIn wsX3_element wsX3_change := goodIn_r _ [36, 37, 38, 39, 4, 40, 24, 41, 42, 43, 44, 29, 45, 46, 47, 48, 49, 50, 51, 52, 53, 54, 55, 56, 57, 58, 59, 60, 30, 31, 32, 61, 62, 63, 64, 65, 66, 67, 25, 26, 27, 28, 68, 69, 70, 71, 72, 73, 74, 75, 76, 77, 78, 79, 80, 81, 82, 83, 84, 85, 86, 87, 88, 89, 90, 91, 92, 93, 94, 95, 96, 97, 98] (by decide +kernel) (by decide +kernel)
set_option maxRecDepth 20000 in
theorem gX3_element_X3_change : GoodIn wsX3_element (wsV RX3 127 RX3 yX3_change wsX3_change) := goodIn_app (goodIn_of _ (by decide +kernel)) ggX3_element_X3_change
theorem dX3_element_0 : decode cX3_element 0 = .ok (.aload_n 0, 1) := by decide +kernel
theorem dX3_element_1 : decode cX3_element 1 = .ok (.aload_n 0, 1) := by decide +kernel
theorem dX3_element_2 : decode cX3_element 2 = .ok (.iload_n 1, 1) := by decide +kernel
theorem dX3_element_3 : decode cX3_element 3 = .ok (.iload_n 2, 1) := by decide +kernel
theorem dX3_element_4 : decode cX3_element 4 = .ok (.iload_n 3, 1) := by decide +kernel
theorem dX3_element_5 : decode cX3_element 5 = .ok (.invokestatic 120, 3) := by decide +kernel
theorem dX3_element_8 : decode cX3_element 8 = .ok (.iconst 0, 1) := by decide +kernel
theorem dX3_element_9 : decode cX3_element 9 = .ok (.iload 4, 2) := by decide +kernel
theorem dX3_element_11 : decode cX3_element 11 = .ok (.invokevirtual 123, 3) := by decide +kernel
theorem dX3_element_14 : decode cX3_element 14 = .ok (.putfield 45, 3) := by decide +kernel
theorem dX3_element_17 : decode cX3_element 17 = .ok (.aload_n 0, 1) := by decide +kernel
theorem dX3_element_18 : decode cX3_element 18 = .ok (.getfield 45, 3) := by decide +kernel
theorem dX3_element_21 : decode cX3_element 21 = .ok (.ifCond .le 7, 3) := by decide +kernel
theorem dX3_element_24 : decode cX3_element 24 = .ok (.iconst 0, 1) := by decide +kernel
theorem dX3_element_25 : decode cX3_element 25 = .ok (.goto 12, 3) := by decide +kernel
theorem dX3_element_28 : decode cX3_element 28 = .ok (.aload_n 0, 1) := by decide +kernel
theorem dX3_element_29 : decode cX3_element 29 = .ok (.iload_n 1, 1) := by decide +kernel
theorem dX3_element_30 : decode cX3_element 30 = .ok (.iload_n 2, 1) := by decide +kernel
theorem dX3_element_31 : decode cX3_element 31 = .ok (.iload_n 3, 1) := by decide +kernel
theorem dX3_element_32 : decode cX3_element 32 = .ok (.iload 4, 2) := by decide +kernel
theorem dX3_element_34 : decode cX3_element 34 = .ok (.invokevirtual 127, 3) := by decide +kernel
theorem dX3_element_37 : decode cX3_element 37 = .ok (.ireturn, 1) := by decide +kernel
set_option maxRecDepth 20000 in
theorem ggX3_write_X3_refusal : GoodIn wsX3_write wsX3_refusal := goodIn_r _ [6, 7, 8, 9, 5, 10, 11, 12, 13, 14, 15, 16, 17, 18, 19, 20, 21, 22, 23, 24, 25, 26, 27, 28, 29, 78, 79, 80, 81, 82, 83, 84, 85, 86, 87, 88, 89, 90, 91] (by decide +kernel) (by decide +kernel)
set_option maxRecDepth 20000 in
theorem gX3_write_X3_refusal : GoodIn wsX3_write (wsV RX3 123 RX3 yX3_refusal wsX3_refusal) := goodIn_app (goodIn_of _ (by decide +kernel)) ggX3_write_X3_refusal
set_option maxRecDepth 20000 in
theorem ggX3_write_X3_fresh : GoodIn wsX3_write wsX3_fresh := goodIn_r _ [33, 21, 34, 35, 36, 5, 37, 26, 38, 39, 40, 41, 42, 43, 78, 79, 80, 81, 82, 83, 84, 85, 86, 87, 88, 89, 90, 91] (by decide +kernel) (by decide +kernel)
set_option maxRecDepth 20000 in
theorem gX3_write_X3_fresh : GoodIn wsX3_write (wsV RX3 105 RX3 yX3_fresh wsX3_fresh) := goodIn_app (goodIn_of _ (by decide +kernel)) ggX3_write_X3_fresh
set_option maxRecDepth 20000 in
theorem ggX3_write_X3_takeBack : GoodIn wsX3_write wsX3_takeBack := goodIn_r _ [47, 38, 48, 49, 26, 50, 51, 52, 5, 53, 27, 28, 29, 54, 55, 56, 78, 79, 80, 81, 82, 83, 84, 85, 86, 87, 88, 89, 90, 91] (by decide +kernel) (by decide +kernel)
set_option maxRecDepth 20000 in
theorem gX3_write_X3_takeBack : GoodIn wsX3_write (wsV RX3 109 RX3 yX3_takeBack wsX3_takeBack) := goodIn_app (goodIn_of _ (by decide +kernel)) ggX3_write_X3_takeBack
set_option maxRecDepth 20000 in
theorem ggX3_write_X3_newDot : GoodIn wsX3_write wsX3_newDot := goodIn_r _ [60, 48, 49, 50, 26, 38, 22, 23, 24, 5, 25, 27, 28, 29, 51, 52, 53, 54, 55, 56, 78, 79, 80, 81, 82, 83, 84, 85, 86, 87, 88, 89, 90, 91] (by decide +kernel) (by decide +kernel)
set_option maxRecDepth 20000 in
theorem gX3_write_X3_newDot : GoodIn wsX3_write (wsV RX3 113 RX3 yX3_newDot wsX3_newDot) := goodIn_app (goodIn_of _ (by decide +kernel)) ggX3_write_X3_newDot
set_option maxRecDepth 20000 in
theorem ggX3_write_X3_done : GoodIn wsX3_write wsX3_done := goodIn_r _ [64, 21, 65, 66, 67, 5, 68, 38, 26, 69, 39, 40, 70, 71, 72, 73, 41, 42, 43, 74, 75, 76, 77, 78, 79, 80, 81, 82, 83, 84, 85, 86, 87, 88, 89, 90, 91] (by decide +kernel) (by decide +kernel)
set_option maxRecDepth 20000 in
theorem gX3_write_X3_done : GoodIn wsX3_write (wsV RX3 117 RX3 yX3_done wsX3_done) := goodIn_app (goodIn_of _ (by decide +kernel)) ggX3_write_X3_done
theorem dX3_write_0 : decode cX3_write 0 = .ok (.aload_n 0, 1) := by decide +kernel
theorem dX3_write_1 : decode cX3_write 1 = .ok (.aload_n 0, 1) := by decide +kernel
theorem dX3_write_2 : decode cX3_write 2 = .ok (.iload_n 1, 1) := by decide +kernel
theorem dX3_write_3 : decode cX3_write 3 = .ok (.iload_n 2, 1) := by decide +kernel
theorem dX3_write_4 : decode cX3_write 4 = .ok (.iconst 1, 1) := by decide +kernel
theorem dX3_write_5 : decode cX3_write 5 = .ok (.iconst 1, 1) := by decide +kernel
theorem dX3_write_6 : decode cX3_write 6 = .ok (.iconst 1, 1) := by decide +kernel
theorem dX3_write_7 : decode cX3_write 7 = .ok (.invokevirtual 123, 3) := by decide +kernel
theorem dX3_write_10 : decode cX3_write 10 = .ok (.putfield 45, 3) := by decide +kernel
theorem dX3_write_13 : decode cX3_write 13 = .ok (.aload_n 0, 1) := by decide +kernel
theorem dX3_write_14 : decode cX3_write 14 = .ok (.getfield 45, 3) := by decide +kernel
theorem dX3_write_17 : decode cX3_write 17 = .ok (.ifCond .le 5, 3) := by decide +kernel
theorem dX3_write_20 : decode cX3_write 20 = .ok (.iconst 0, 1) := by decide +kernel
theorem dX3_write_21 : decode cX3_write 21 = .ok (.ireturn, 1) := by decide +kernel
theorem dX3_write_22 : decode cX3_write 22 = .ok (.aload_n 0, 1) := by decide +kernel
theorem dX3_write_23 : decode cX3_write 23 = .ok (.invokevirtual 105, 3) := by decide +kernel
theorem dX3_write_26 : decode cX3_write 26 = .ok (.istore 5, 2) := by decide +kernel
theorem dX3_write_28 : decode cX3_write 28 = .ok (.aload_n 0, 1) := by decide +kernel
theorem dX3_write_29 : decode cX3_write 29 = .ok (.iload_n 1, 1) := by decide +kernel
theorem dX3_write_30 : decode cX3_write 30 = .ok (.iload 5, 2) := by decide +kernel
theorem dX3_write_32 : decode cX3_write 32 = .ok (.iload_n 2, 1) := by decide +kernel
theorem dX3_write_33 : decode cX3_write 33 = .ok (.iconst (-1), 1) := by decide +kernel
theorem dX3_write_34 : decode cX3_write 34 = .ok (.iconst (-1), 1) := by decide +kernel
theorem dX3_write_35 : decode cX3_write 35 = .ok (.invokevirtual 109, 3) := by decide +kernel
theorem dX3_write_38 : decode cX3_write 38 = .ok (.pop2, 1) := by decide +kernel
theorem dX3_write_39 : decode cX3_write 39 = .ok (.aload_n 0, 1) := by decide +kernel
theorem dX3_write_40 : decode cX3_write 40 = .ok (.iload_n 1, 1) := by decide +kernel
theorem dX3_write_41 : decode cX3_write 41 = .ok (.iload 5, 2) := by decide +kernel
theorem dX3_write_43 : decode cX3_write 43 = .ok (.iload_n 2, 1) := by decide +kernel
theorem dX3_write_44 : decode cX3_write 44 = .ok (.iconst 0, 1) := by decide +kernel
theorem dX3_write_45 : decode cX3_write 45 = .ok (.lload_n 3, 1) := by decide +kernel
theorem dX3_write_46 : decode cX3_write 46 = .ok (.invokevirtual 113, 3) := by decide +kernel
theorem dX3_write_49 : decode cX3_write 49 = .ok (.aload_n 0, 1) := by decide +kernel
theorem dX3_write_50 : decode cX3_write 50 = .ok (.iload_n 1, 1) := by decide +kernel
theorem dX3_write_51 : decode cX3_write 51 = .ok (.iload 5, 2) := by decide +kernel
theorem dX3_write_53 : decode cX3_write 53 = .ok (.invokevirtual 117, 3) := by decide +kernel
theorem dX3_write_56 : decode cX3_write 56 = .ok (.ireturn, 1) := by decide +kernel
set_option maxRecDepth 20000 in
theorem ggX3_count_X3_refusal : GoodIn wsX3_count wsX3_refusal := goodIn_r _ [6, 7, 8, 9, 5, 10, 11, 12, 13, 14, 15, 16, 17, 18, 19, 20, 21, 22, 23, 24, 25, 26, 27, 28, 29, 78, 79, 80, 81, 82, 83, 84, 85, 86, 87, 88, 89, 90, 91] (by decide +kernel) (by decide +kernel)
set_option maxRecDepth 20000 in
theorem gX3_count_X3_refusal : GoodIn wsX3_count (wsV RX3 123 RX3 yX3_refusal wsX3_refusal) := goodIn_app (goodIn_of _ (by decide +kernel)) ggX3_count_X3_refusal
set_option maxRecDepth 20000 in
theorem ggX3_count_X3_fresh : GoodIn wsX3_count wsX3_fresh := goodIn_r _ [33, 21, 34, 35, 36, 5, 37, 26, 38, 39, 40, 41, 42, 43, 78, 79, 80, 81, 82, 83, 84, 85, 86, 87, 88, 89, 90, 91] (by decide +kernel) (by decide +kernel)
set_option maxRecDepth 20000 in
theorem gX3_count_X3_fresh : GoodIn wsX3_count (wsV RX3 105 RX3 yX3_fresh wsX3_fresh) := goodIn_app (goodIn_of _ (by decide +kernel)) ggX3_count_X3_fresh
set_option maxRecDepth 20000 in
theorem ggX3_count_X3_takeBack : GoodIn wsX3_count wsX3_takeBack := goodIn_r _ [47, 38, 48, 49, 26, 50, 51, 52, 5, 53, 27, 28, 29, 54, 55, 56, 78, 79, 80, 81, 82, 83, 84, 85, 86, 87, 88, 89, 90, 91] (by decide +kernel) (by decide +kernel)
set_option maxRecDepth 20000 in
theorem gX3_count_X3_takeBack : GoodIn wsX3_count (wsV RX3 109 RX3 yX3_takeBack wsX3_takeBack) := goodIn_app (goodIn_of _ (by decide +kernel)) ggX3_count_X3_takeBack
set_option maxRecDepth 20000 in
theorem ggX3_count_X3_newDot : GoodIn wsX3_count wsX3_newDot := goodIn_r _ [60, 48, 49, 50, 26, 38, 22, 23, 24, 5, 25, 27, 28, 29, 51, 52, 53, 54, 55, 56, 78, 79, 80, 81, 82, 83, 84, 85, 86, 87, 88, 89, 90, 91] (by decide +kernel) (by decide +kernel)
set_option maxRecDepth 20000 in
theorem gX3_count_X3_newDot : GoodIn wsX3_count (wsV RX3 113 RX3 yX3_newDot wsX3_newDot) := goodIn_app (goodIn_of _ (by decide +kernel)) ggX3_count_X3_newDot
set_option maxRecDepth 20000 in
theorem ggX3_count_X3_done : GoodIn wsX3_count wsX3_done := goodIn_r _ [64, 21, 65, 66, 67, 5, 68, 38, 26, 69, 39, 40, 70, 71, 72, 73, 41, 42, 43, 74, 75, 76, 77, 78, 79, 80, 81, 82, 83, 84, 85, 86, 87, 88, 89, 90, 91] (by decide +kernel) (by decide +kernel)
set_option maxRecDepth 20000 in
theorem gX3_count_X3_done : GoodIn wsX3_count (wsV RX3 117 RX3 yX3_done wsX3_done) := goodIn_app (goodIn_of _ (by decide +kernel)) ggX3_count_X3_done
theorem dX3_count_0 : decode cX3_count 0 = .ok (.aload_n 0, 1) := by decide +kernel
theorem dX3_count_1 : decode cX3_count 1 = .ok (.aload_n 0, 1) := by decide +kernel
theorem dX3_count_2 : decode cX3_count 2 = .ok (.iload_n 1, 1) := by decide +kernel
theorem dX3_count_3 : decode cX3_count 3 = .ok (.iload_n 2, 1) := by decide +kernel
theorem dX3_count_4 : decode cX3_count 4 = .ok (.iconst 1, 1) := by decide +kernel
theorem dX3_count_5 : decode cX3_count 5 = .ok (.iconst 2, 1) := by decide +kernel
theorem dX3_count_6 : decode cX3_count 6 = .ok (.iconst 1, 1) := by decide +kernel
theorem dX3_count_7 : decode cX3_count 7 = .ok (.invokevirtual 123, 3) := by decide +kernel
theorem dX3_count_10 : decode cX3_count 10 = .ok (.putfield 45, 3) := by decide +kernel
theorem dX3_count_13 : decode cX3_count 13 = .ok (.aload_n 0, 1) := by decide +kernel
theorem dX3_count_14 : decode cX3_count 14 = .ok (.getfield 45, 3) := by decide +kernel
theorem dX3_count_17 : decode cX3_count 17 = .ok (.ifCond .le 5, 3) := by decide +kernel
theorem dX3_count_20 : decode cX3_count 20 = .ok (.iconst 0, 1) := by decide +kernel
theorem dX3_count_21 : decode cX3_count 21 = .ok (.ireturn, 1) := by decide +kernel
theorem dX3_count_22 : decode cX3_count 22 = .ok (.aload_n 0, 1) := by decide +kernel
theorem dX3_count_23 : decode cX3_count 23 = .ok (.invokevirtual 105, 3) := by decide +kernel
theorem dX3_count_26 : decode cX3_count 26 = .ok (.istore 5, 2) := by decide +kernel
theorem dX3_count_28 : decode cX3_count 28 = .ok (.aload_n 0, 1) := by decide +kernel
theorem dX3_count_29 : decode cX3_count 29 = .ok (.iload_n 1, 1) := by decide +kernel
theorem dX3_count_30 : decode cX3_count 30 = .ok (.iload 5, 2) := by decide +kernel
theorem dX3_count_32 : decode cX3_count 32 = .ok (.iload_n 2, 1) := by decide +kernel
theorem dX3_count_33 : decode cX3_count 33 = .ok (.iconst (-1), 1) := by decide +kernel
theorem dX3_count_34 : decode cX3_count 34 = .ok (.iload_n 1, 1) := by decide +kernel
theorem dX3_count_35 : decode cX3_count 35 = .ok (.invokevirtual 109, 3) := by decide +kernel
theorem dX3_count_38 : decode cX3_count 38 = .ok (.lstore 6, 2) := by decide +kernel
theorem dX3_count_40 : decode cX3_count 40 = .ok (.aload_n 0, 1) := by decide +kernel
theorem dX3_count_41 : decode cX3_count 41 = .ok (.iload_n 1, 1) := by decide +kernel
theorem dX3_count_42 : decode cX3_count 42 = .ok (.iload 5, 2) := by decide +kernel
theorem dX3_count_44 : decode cX3_count 44 = .ok (.iload_n 2, 1) := by decide +kernel
theorem dX3_count_45 : decode cX3_count 45 = .ok (.iconst 0, 1) := by decide +kernel
theorem dX3_count_46 : decode cX3_count 46 = .ok (.lload 6, 2) := by decide +kernel
theorem dX3_count_48 : decode cX3_count 48 = .ok (.lload_n 3, 1) := by decide +kernel
theorem dX3_count_49 : decode cX3_count 49 = .ok (.ladd, 1) := by decide +kernel
theorem dX3_count_50 : decode cX3_count 50 = .ok (.invokevirtual 113, 3) := by decide +kernel
theorem dX3_count_53 : decode cX3_count 53 = .ok (.aload_n 0, 1) := by decide +kernel
theorem dX3_count_54 : decode cX3_count 54 = .ok (.iload_n 1, 1) := by decide +kernel
theorem dX3_count_55 : decode cX3_count 55 = .ok (.iload 5, 2) := by decide +kernel
theorem dX3_count_57 : decode cX3_count 57 = .ok (.invokevirtual 117, 3) := by decide +kernel
theorem dX3_count_60 : decode cX3_count 60 = .ok (.ireturn, 1) := by decide +kernel
set_option maxRecDepth 20000 in
theorem ggX3_flag_X3_in : GoodIn wsX3_flag wsX3_in := goodIn_r _ [5] (by decide +kernel) (by decide +kernel)
set_option maxRecDepth 20000 in
theorem gX3_flag_X3_in : GoodIn wsX3_flag (va_wsS RX3 79 yX3_in wsX3_in) := goodIn_app (goodIn_of _ (by decide +kernel)) ggX3_flag_X3_in
set_option maxRecDepth 20000 in
theorem ggX3_flag_X3_refusal : GoodIn wsX3_flag wsX3_refusal := goodIn_r _ [9, 10, 11, 12, 4, 13, 2, 3, 5, 14, 15, 16, 17, 18, 19, 20, 21, 22, 23, 24, 25, 26, 27, 28, 29, 82, 83, 84, 85, 86, 87, 88, 89, 90, 91, 92, 93, 94, 95] (by decide +kernel) (by decide +kernel)
set_option maxRecDepth 20000 in
theorem gX3_flag_X3_refusal : GoodIn wsX3_flag (wsV RX3 123 RX3 yX3_refusal wsX3_refusal) := goodIn_app (goodIn_of _ (by decide +kernel)) ggX3_flag_X3_refusal
set_option maxRecDepth 20000 in
theorem ggX3_flag_X3_change : GoodIn wsX3_flag wsX3_change := goodIn_r _ [33, 34, 35, 36, 4, 37, 21, 38, 39, 40, 41, 26, 42, 43, 44, 45, 46, 47, 48, 49, 50, 51, 52, 53, 54, 55, 56, 57, 27, 28, 29, 58, 59, 60, 61, 62, 63, 64, 22, 23, 24, 25, 65, 66, 67, 68, 69, 70, 71, 72, 73, 74, 75, 76, 77, 78, 79, 80, 81, 82, 83, 84, 85, 86, 87, 88, 89, 90, 91, 92, 93, 94, 95] (by decide +kernel) (by decide +kernel)
set_option maxRecDepth 20000 in
theorem gX3_flag_X3_change : GoodIn wsX3_flag (wsV RX3 127 RX3 yX3_change wsX3_change) := goodIn_app (goodIn_of _ (by decide +kernel)) ggX3_flag_X3_change
theorem dX3_flag_0 : decode cX3_flag 0 = .ok (.aload_n 0, 1) := by decide +kernel
theorem dX3_flag_1 : decode cX3_flag 1 = .ok (.aload_n 0, 1) := by decide +kernel
theorem dX3_flag_2 : decode cX3_flag 2 = .ok (.iload_n 1, 1) := by decide +kernel
theorem dX3_flag_3 : decode cX3_flag 3 = .ok (.iload_n 2, 1) := by decide +kernel
theorem dX3_flag_4 : decode cX3_flag 4 = .ok (.iload_n 3, 1) := by decide +kernel
theorem dX3_flag_5 : decode cX3_flag 5 = .ok (.iconst 0, 1) := by decide +kernel
theorem dX3_flag_6 : decode cX3_flag 6 = .ok (.bipush 7, 2) := by decide +kernel
theorem dX3_flag_8 : decode cX3_flag 8 = .ok (.invokestatic 79, 3) := by decide +kernel
theorem dX3_flag_11 : decode cX3_flag 11 = .ok (.iconst 3, 1) := by decide +kernel
theorem dX3_flag_12 : decode cX3_flag 12 = .ok (.iload 4, 2) := by decide +kernel
theorem dX3_flag_14 : decode cX3_flag 14 = .ok (.invokevirtual 123, 3) := by decide +kernel
theorem dX3_flag_17 : decode cX3_flag 17 = .ok (.putfield 45, 3) := by decide +kernel
theorem dX3_flag_20 : decode cX3_flag 20 = .ok (.aload_n 0, 1) := by decide +kernel
theorem dX3_flag_21 : decode cX3_flag 21 = .ok (.getfield 45, 3) := by decide +kernel
theorem dX3_flag_24 : decode cX3_flag 24 = .ok (.ifCond .le 7, 3) := by decide +kernel
theorem dX3_flag_27 : decode cX3_flag 27 = .ok (.iconst 0, 1) := by decide +kernel
theorem dX3_flag_28 : decode cX3_flag 28 = .ok (.goto 12, 3) := by decide +kernel
theorem dX3_flag_31 : decode cX3_flag 31 = .ok (.aload_n 0, 1) := by decide +kernel
theorem dX3_flag_32 : decode cX3_flag 32 = .ok (.iload_n 1, 1) := by decide +kernel
theorem dX3_flag_33 : decode cX3_flag 33 = .ok (.iload_n 2, 1) := by decide +kernel
theorem dX3_flag_34 : decode cX3_flag 34 = .ok (.iload_n 3, 1) := by decide +kernel
theorem dX3_flag_35 : decode cX3_flag 35 = .ok (.iload 4, 2) := by decide +kernel
theorem dX3_flag_37 : decode cX3_flag 37 = .ok (.invokevirtual 127, 3) := by decide +kernel
theorem dX3_flag_40 : decode cX3_flag 40 = .ok (.ireturn, 1) := by decide +kernel
set_option maxRecDepth 20000 in
theorem ggX3_clear_X3_isReplica : GoodIn wsX3_clear wsX3_isReplica := goodIn_r _ [6, 7, 8, 5, 9] (by decide +kernel) (by decide +kernel)
set_option maxRecDepth 20000 in
theorem gX3_clear_X3_isReplica : GoodIn wsX3_clear (wsV RX3 94 RX3 yX3_isReplica wsX3_isReplica) := goodIn_app (goodIn_of _ (by decide +kernel)) ggX3_clear_X3_isReplica
set_option maxRecDepth 20000 in
theorem ggX3_clear_X3_isKey : GoodIn wsX3_clear wsX3_isKey := goodIn_r _ [12, 7, 8, 5, 9] (by decide +kernel) (by decide +kernel)
set_option maxRecDepth 20000 in
theorem gX3_clear_X3_isKey : GoodIn wsX3_clear (va_wsS RX3 98 yX3_isKey wsX3_isKey) := goodIn_app (goodIn_of _ (by decide +kernel)) ggX3_clear_X3_isKey
set_option maxRecDepth 20000 in
theorem ggX3_clear_X3_hasRoom : GoodIn wsX3_clear wsX3_hasRoom := goodIn_r _ [16, 17, 18, 19, 20, 5, 21, 22, 23, 24, 25, 70, 71, 72, 73, 74, 75, 76, 77, 78, 79, 80, 81, 82, 83] (by decide +kernel) (by decide +kernel)
set_option maxRecDepth 20000 in
theorem gX3_clear_X3_hasRoom : GoodIn wsX3_clear (wsV RX3 101 RX3 yX3_hasRoom wsX3_hasRoom) := goodIn_app (goodIn_of _ (by decide +kernel)) ggX3_clear_X3_hasRoom
set_option maxRecDepth 20000 in
theorem ggX3_clear_X3_fresh : GoodIn wsX3_clear wsX3_fresh := goodIn_r _ [29, 17, 30, 31, 32, 5, 33, 22, 34, 35, 36, 37, 38, 39, 70, 71, 72, 73, 74, 75, 76, 77, 78, 79, 80, 81, 82, 83] (by decide +kernel) (by decide +kernel)
set_option maxRecDepth 20000 in
theorem gX3_clear_X3_fresh : GoodIn wsX3_clear (wsV RX3 105 RX3 yX3_fresh wsX3_fresh) := goodIn_app (goodIn_of _ (by decide +kernel)) ggX3_clear_X3_fresh
set_option maxRecDepth 20000 in
theorem ggX3_clear_X3_takeBack : GoodIn wsX3_clear wsX3_takeBack := goodIn_r _ [43, 34, 44, 45, 22, 46, 47, 48, 5, 49, 23, 24, 25, 50, 51, 52, 70, 71, 72, 73, 74, 75, 76, 77, 78, 79, 80, 81, 82, 83] (by decide +kernel) (by decide +kernel)
set_option maxRecDepth 20000 in
theorem gX3_clear_X3_takeBack : GoodIn wsX3_clear (wsV RX3 109 RX3 yX3_takeBack wsX3_takeBack) := goodIn_app (goodIn_of _ (by decide +kernel)) ggX3_clear_X3_takeBack
set_option maxRecDepth 20000 in
theorem ggX3_clear_X3_done : GoodIn wsX3_clear wsX3_done := goodIn_r _ [56, 17, 57, 58, 59, 5, 60, 34, 22, 61, 35, 36, 62, 63, 64, 65, 37, 38, 39, 66, 67, 68, 69, 70, 71, 72, 73, 74, 75, 76, 77, 78, 79, 80, 81, 82, 83] (by decide +kernel) (by decide +kernel)
set_option maxRecDepth 20000 in
theorem gX3_clear_X3_done : GoodIn wsX3_clear (wsV RX3 117 RX3 yX3_done wsX3_done) := goodIn_app (goodIn_of _ (by decide +kernel)) ggX3_clear_X3_done
theorem dX3_clear_0 : decode cX3_clear 0 = .ok (.aload_n 0, 1) := by decide +kernel
theorem dX3_clear_1 : decode cX3_clear 1 = .ok (.aload_n 0, 1) := by decide +kernel
theorem dX3_clear_2 : decode cX3_clear 2 = .ok (.iload_n 1, 1) := by decide +kernel
theorem dX3_clear_3 : decode cX3_clear 3 = .ok (.invokevirtual 94, 3) := by decide +kernel
theorem dX3_clear_6 : decode cX3_clear 6 = .ok (.ifCond .eq 10, 3) := by decide +kernel
theorem dX3_clear_9 : decode cX3_clear 9 = .ok (.iload_n 2, 1) := by decide +kernel
theorem dX3_clear_10 : decode cX3_clear 10 = .ok (.invokestatic 98, 3) := by decide +kernel
theorem dX3_clear_13 : decode cX3_clear 13 = .ok (.ifCond .ne 7, 3) := by decide +kernel
theorem dX3_clear_16 : decode cX3_clear 16 = .ok (.iconst 1, 1) := by decide +kernel
theorem dX3_clear_17 : decode cX3_clear 17 = .ok (.goto 17, 3) := by decide +kernel
theorem dX3_clear_20 : decode cX3_clear 20 = .ok (.aload_n 0, 1) := by decide +kernel
theorem dX3_clear_21 : decode cX3_clear 21 = .ok (.iload_n 1, 1) := by decide +kernel
theorem dX3_clear_22 : decode cX3_clear 22 = .ok (.iconst 0, 1) := by decide +kernel
theorem dX3_clear_23 : decode cX3_clear 23 = .ok (.invokevirtual 101, 3) := by decide +kernel
theorem dX3_clear_26 : decode cX3_clear 26 = .ok (.ifCond .eq 7, 3) := by decide +kernel
theorem dX3_clear_29 : decode cX3_clear 29 = .ok (.iconst 0, 1) := by decide +kernel
theorem dX3_clear_30 : decode cX3_clear 30 = .ok (.goto 4, 3) := by decide +kernel
theorem dX3_clear_33 : decode cX3_clear 33 = .ok (.iconst 2, 1) := by decide +kernel
theorem dX3_clear_34 : decode cX3_clear 34 = .ok (.putfield 45, 3) := by decide +kernel
theorem dX3_clear_37 : decode cX3_clear 37 = .ok (.aload_n 0, 1) := by decide +kernel
theorem dX3_clear_38 : decode cX3_clear 38 = .ok (.getfield 45, 3) := by decide +kernel
theorem dX3_clear_41 : decode cX3_clear 41 = .ok (.ifCond .le 5, 3) := by decide +kernel
theorem dX3_clear_44 : decode cX3_clear 44 = .ok (.iconst 0, 1) := by decide +kernel
theorem dX3_clear_45 : decode cX3_clear 45 = .ok (.ireturn, 1) := by decide +kernel
theorem dX3_clear_46 : decode cX3_clear 46 = .ok (.aload_n 0, 1) := by decide +kernel
theorem dX3_clear_47 : decode cX3_clear 47 = .ok (.invokevirtual 105, 3) := by decide +kernel
theorem dX3_clear_50 : decode cX3_clear 50 = .ok (.istore_n 3, 1) := by decide +kernel
theorem dX3_clear_51 : decode cX3_clear 51 = .ok (.aload_n 0, 1) := by decide +kernel
theorem dX3_clear_52 : decode cX3_clear 52 = .ok (.iload_n 1, 1) := by decide +kernel
theorem dX3_clear_53 : decode cX3_clear 53 = .ok (.iload_n 3, 1) := by decide +kernel
theorem dX3_clear_54 : decode cX3_clear 54 = .ok (.iload_n 2, 1) := by decide +kernel
theorem dX3_clear_55 : decode cX3_clear 55 = .ok (.iconst (-1), 1) := by decide +kernel
theorem dX3_clear_56 : decode cX3_clear 56 = .ok (.iconst (-1), 1) := by decide +kernel
theorem dX3_clear_57 : decode cX3_clear 57 = .ok (.invokevirtual 109, 3) := by decide +kernel
theorem dX3_clear_60 : decode cX3_clear 60 = .ok (.pop2, 1) := by decide +kernel
theorem dX3_clear_61 : decode cX3_clear 61 = .ok (.aload_n 0, 1) := by decide +kernel
theorem dX3_clear_62 : decode cX3_clear 62 = .ok (.iload_n 1, 1) := by decide +kernel
theorem dX3_clear_63 : decode cX3_clear 63 = .ok (.iload_n 3, 1) := by decide +kernel
theorem dX3_clear_64 : decode cX3_clear 64 = .ok (.invokevirtual 117, 3) := by decide +kernel
theorem dX3_clear_67 : decode cX3_clear 67 = .ok (.ireturn, 1) := by decide +kernel
set_option maxRecDepth 20000 in
theorem ggX3_twice_X3_isReplica : GoodIn wsX3_twice wsX3_isReplica := goodIn_r _ [8, 9, 10, 7, 11] (by decide +kernel) (by decide +kernel)
set_option maxRecDepth 20000 in
theorem gX3_twice_X3_isReplica : GoodIn wsX3_twice (wsV RX3 94 RX3 yX3_isReplica wsX3_isReplica) := goodIn_app (goodIn_of _ (by decide +kernel)) ggX3_twice_X3_isReplica
set_option maxRecDepth 20000 in
theorem ggX3_twice_X3_isElement : GoodIn wsX3_twice wsX3_isElement := goodIn_r _ [14, 9, 10, 7, 11] (by decide +kernel) (by decide +kernel)
set_option maxRecDepth 20000 in
theorem gX3_twice_X3_isElement : GoodIn wsX3_twice (va_wsS RX3 120 yX3_isElement wsX3_isElement) := goodIn_app (goodIn_of _ (by decide +kernel)) ggX3_twice_X3_isElement
set_option maxRecDepth 20000 in
theorem ggX3_twice_X3_hasRoom : GoodIn wsX3_twice wsX3_hasRoom := goodIn_r _ [18, 19, 20, 21, 22, 7, 23, 24, 25, 26, 27, 57, 58, 59, 60, 61, 62, 63, 64, 65, 66, 67, 68, 69, 70] (by decide +kernel) (by decide +kernel)
set_option maxRecDepth 20000 in
theorem gX3_twice_X3_hasRoom : GoodIn wsX3_twice (wsV RX3 101 RX3 yX3_hasRoom wsX3_hasRoom) := goodIn_app (goodIn_of _ (by decide +kernel)) ggX3_twice_X3_hasRoom
set_option maxRecDepth 20000 in
theorem ggX3_twice_X3_fresh : GoodIn wsX3_twice wsX3_fresh := goodIn_r _ [31, 19, 32, 33, 34, 7, 35, 24, 36, 2, 3, 37, 38, 39, 57, 58, 59, 60, 61, 62, 63, 64, 65, 66, 67, 68, 69, 70] (by decide +kernel) (by decide +kernel)
set_option maxRecDepth 20000 in
theorem gX3_twice_X3_fresh : GoodIn wsX3_twice (wsV RX3 105 RX3 yX3_fresh wsX3_fresh) := goodIn_app (goodIn_of _ (by decide +kernel)) ggX3_twice_X3_fresh
set_option maxRecDepth 20000 in
theorem ggX3_twice_X3_done : GoodIn wsX3_twice wsX3_done := goodIn_r _ [43, 19, 44, 45, 46, 7, 47, 36, 24, 48, 2, 3, 49, 50, 51, 52, 37, 38, 39, 53, 54, 55, 56, 57, 58, 59, 60, 61, 62, 63, 64, 65, 66, 67, 68, 69, 70] (by decide +kernel) (by decide +kernel)
set_option maxRecDepth 20000 in
theorem gX3_twice_X3_done : GoodIn wsX3_twice (wsV RX3 117 RX3 yX3_done wsX3_done) := goodIn_app (goodIn_of _ (by decide +kernel)) ggX3_twice_X3_done
theorem dX3_twice_0 : decode cX3_twice 0 = .ok (.aload_n 0, 1) := by decide +kernel
theorem dX3_twice_1 : decode cX3_twice 1 = .ok (.aload_n 0, 1) := by decide +kernel
theorem dX3_twice_2 : decode cX3_twice 2 = .ok (.iload_n 1, 1) := by decide +kernel
theorem dX3_twice_3 : decode cX3_twice 3 = .ok (.invokevirtual 94, 3) := by decide +kernel
theorem dX3_twice_6 : decode cX3_twice 6 = .ok (.ifCond .eq 10, 3) := by decide +kernel
theorem dX3_twice_9 : decode cX3_twice 9 = .ok (.iload_n 2, 1) := by decide +kernel
theorem dX3_twice_10 : decode cX3_twice 10 = .ok (.invokestatic 120, 3) := by decide +kernel
theorem dX3_twice_13 : decode cX3_twice 13 = .ok (.ifCond .ne 7, 3) := by decide +kernel
theorem dX3_twice_16 : decode cX3_twice 16 = .ok (.iconst 1, 1) := by decide +kernel
theorem dX3_twice_17 : decode cX3_twice 17 = .ok (.goto 17, 3) := by decide +kernel
theorem dX3_twice_20 : decode cX3_twice 20 = .ok (.aload_n 0, 1) := by decide +kernel
theorem dX3_twice_21 : decode cX3_twice 21 = .ok (.iload_n 1, 1) := by decide +kernel
theorem dX3_twice_22 : decode cX3_twice 22 = .ok (.iconst 0, 1) := by decide +kernel
theorem dX3_twice_23 : decode cX3_twice 23 = .ok (.invokevirtual 101, 3) := by decide +kernel
theorem dX3_twice_26 : decode cX3_twice 26 = .ok (.ifCond .eq 7, 3) := by decide +kernel
theorem dX3_twice_29 : decode cX3_twice 29 = .ok (.iconst 0, 1) := by decide +kernel
theorem dX3_twice_30 : decode cX3_twice 30 = .ok (.goto 4, 3) := by decide +kernel
theorem dX3_twice_33 : decode cX3_twice 33 = .ok (.iconst 2, 1) := by decide +kernel
theorem dX3_twice_34 : decode cX3_twice 34 = .ok (.putfield 45, 3) := by decide +kernel
theorem dX3_twice_37 : decode cX3_twice 37 = .ok (.aload_n 0, 1) := by decide +kernel
theorem dX3_twice_38 : decode cX3_twice 38 = .ok (.getfield 45, 3) := by decide +kernel
theorem dX3_twice_41 : decode cX3_twice 41 = .ok (.ifCond .le 5, 3) := by decide +kernel
theorem dX3_twice_44 : decode cX3_twice 44 = .ok (.iconst 0, 1) := by decide +kernel
theorem dX3_twice_45 : decode cX3_twice 45 = .ok (.ireturn, 1) := by decide +kernel
theorem dX3_twice_46 : decode cX3_twice 46 = .ok (.aload_n 0, 1) := by decide +kernel
theorem dX3_twice_47 : decode cX3_twice 47 = .ok (.invokevirtual 105, 3) := by decide +kernel
theorem dX3_twice_50 : decode cX3_twice 50 = .ok (.istore 4, 2) := by decide +kernel
theorem dX3_twice_52 : decode cX3_twice 52 = .ok (.aload_n 0, 1) := by decide +kernel
theorem dX3_twice_53 : decode cX3_twice 53 = .ok (.getfield 16, 3) := by decide +kernel
theorem dX3_twice_56 : decode cX3_twice 56 = .ok (.iload 4, 2) := by decide +kernel
theorem dX3_twice_58 : decode cX3_twice 58 = .ok (.iload_n 3, 1) := by decide +kernel
theorem dX3_twice_59 : decode cX3_twice 59 = .ok (.ifCond .eq 9, 3) := by decide +kernel
theorem dX3_twice_62 : decode cX3_twice 62 = .ok (.iconst 1, 1) := by decide +kernel
theorem dX3_twice_63 : decode cX3_twice 63 = .ok (.iload_n 2, 1) := by decide +kernel
theorem dX3_twice_64 : decode cX3_twice 64 = .ok (.ishl, 1) := by decide +kernel
theorem dX3_twice_65 : decode cX3_twice 65 = .ok (.goto 4, 3) := by decide +kernel
theorem dX3_twice_68 : decode cX3_twice 68 = .ok (.iconst 0, 1) := by decide +kernel
theorem dX3_twice_69 : decode cX3_twice 69 = .ok (.iastore, 1) := by decide +kernel
theorem dX3_twice_70 : decode cX3_twice 70 = .ok (.aload_n 0, 1) := by decide +kernel
theorem dX3_twice_71 : decode cX3_twice 71 = .ok (.getfield 20, 3) := by decide +kernel
theorem dX3_twice_74 : decode cX3_twice 74 = .ok (.iload 4, 2) := by decide +kernel
theorem dX3_twice_76 : decode cX3_twice 76 = .ok (.iload_n 3, 1) := by decide +kernel
theorem dX3_twice_77 : decode cX3_twice 77 = .ok (.ifCond .eq 7, 3) := by decide +kernel
theorem dX3_twice_80 : decode cX3_twice 80 = .ok (.iconst 0, 1) := by decide +kernel
theorem dX3_twice_81 : decode cX3_twice 81 = .ok (.goto 6, 3) := by decide +kernel
theorem dX3_twice_84 : decode cX3_twice 84 = .ok (.iconst 1, 1) := by decide +kernel
theorem dX3_twice_85 : decode cX3_twice 85 = .ok (.iload_n 2, 1) := by decide +kernel
theorem dX3_twice_86 : decode cX3_twice 86 = .ok (.ishl, 1) := by decide +kernel
theorem dX3_twice_87 : decode cX3_twice 87 = .ok (.iastore, 1) := by decide +kernel
theorem dX3_twice_88 : decode cX3_twice 88 = .ok (.aload_n 0, 1) := by decide +kernel
theorem dX3_twice_89 : decode cX3_twice 89 = .ok (.iload_n 1, 1) := by decide +kernel
theorem dX3_twice_90 : decode cX3_twice 90 = .ok (.iload 4, 2) := by decide +kernel
theorem dX3_twice_92 : decode cX3_twice 92 = .ok (.invokevirtual 117, 3) := by decide +kernel
theorem dX3_twice_95 : decode cX3_twice 95 = .ok (.ireturn, 1) := by decide +kernel
set_option maxRecDepth 20000 in
theorem ggX3_timed_X3_isReplica : GoodIn wsX3_timed wsX3_isReplica := goodIn_r _ [10, 11, 12, 9, 13] (by decide +kernel) (by decide +kernel)
set_option maxRecDepth 20000 in
theorem gX3_timed_X3_isReplica : GoodIn wsX3_timed (wsV RX3 94 RX3 yX3_isReplica wsX3_isReplica) := goodIn_app (goodIn_of _ (by decide +kernel)) ggX3_timed_X3_isReplica
set_option maxRecDepth 20000 in
theorem ggX3_timed_X3_isElement : GoodIn wsX3_timed wsX3_isElement := goodIn_r _ [16, 11, 12, 9, 13] (by decide +kernel) (by decide +kernel)
set_option maxRecDepth 20000 in
theorem gX3_timed_X3_isElement : GoodIn wsX3_timed (va_wsS RX3 120 yX3_isElement wsX3_isElement) := goodIn_app (goodIn_of _ (by decide +kernel)) ggX3_timed_X3_isElement
set_option maxRecDepth 20000 in
theorem ggX3_timed_X3_in : GoodIn wsX3_timed wsX3_in := goodIn_r _ [13] (by decide +kernel) (by decide +kernel)
set_option maxRecDepth 20000 in
theorem gX3_timed_X3_in : GoodIn wsX3_timed (va_wsS RX3 79 yX3_in wsX3_in) := goodIn_app (goodIn_of _ (by decide +kernel)) ggX3_timed_X3_in
set_option maxRecDepth 20000 in
theorem ggX3_timed_X3_hasRoom : GoodIn wsX3_timed wsX3_hasRoom := goodIn_r _ [20, 21, 22, 23, 24, 9, 25, 26, 27, 28, 29, 58, 59, 60, 61, 62, 63, 64, 65, 66, 67, 68, 69, 70, 71] (by decide +kernel) (by decide +kernel)
set_option maxRecDepth 20000 in
theorem gX3_timed_X3_hasRoom : GoodIn wsX3_timed (wsV RX3 101 RX3 yX3_hasRoom wsX3_hasRoom) := goodIn_app (goodIn_of _ (by decide +kernel)) ggX3_timed_X3_hasRoom
set_option maxRecDepth 20000 in
theorem ggX3_timed_X3_fresh : GoodIn wsX3_timed wsX3_fresh := goodIn_r _ [33, 21, 34, 35, 36, 9, 37, 26, 38, 39, 40, 3, 4, 5, 58, 59, 60, 61, 62, 63, 64, 65, 66, 67, 68, 69, 70, 71] (by decide +kernel) (by decide +kernel)
set_option maxRecDepth 20000 in
theorem gX3_timed_X3_fresh : GoodIn wsX3_timed (wsV RX3 105 RX3 yX3_fresh wsX3_fresh) := goodIn_app (goodIn_of _ (by decide +kernel)) ggX3_timed_X3_fresh
set_option maxRecDepth 20000 in
theorem ggX3_timed_X3_done : GoodIn wsX3_timed wsX3_done := goodIn_r _ [44, 21, 45, 46, 47, 9, 48, 38, 26, 49, 39, 40, 50, 51, 52, 53, 3, 4, 5, 54, 55, 56, 57, 58, 59, 60, 61, 62, 63, 64, 65, 66, 67, 68, 69, 70, 71] (by decide +kernel) (by decide +kernel)
set_option maxRecDepth 20000 in
theorem gX3_timed_X3_done : GoodIn wsX3_timed (wsV RX3 117 RX3 yX3_done wsX3_done) := goodIn_app (goodIn_of _ (by decide +kernel)) ggX3_timed_X3_done
theorem dX3_timed_0 : decode cX3_timed 0 = .ok (.aload_n 0, 1) := by decide +kernel
theorem dX3_timed_1 : decode cX3_timed 1 = .ok (.aload_n 0, 1) := by decide +kernel
theorem dX3_timed_2 : decode cX3_timed 2 = .ok (.iload_n 1, 1) := by decide +kernel
theorem dX3_timed_3 : decode cX3_timed 3 = .ok (.invokevirtual 94, 3) := by decide +kernel
theorem dX3_timed_6 : decode cX3_timed 6 = .ok (.ifCond .eq 10, 3) := by decide +kernel
theorem dX3_timed_9 : decode cX3_timed 9 = .ok (.iload_n 2, 1) := by decide +kernel
theorem dX3_timed_10 : decode cX3_timed 10 = .ok (.invokestatic 120, 3) := by decide +kernel
theorem dX3_timed_13 : decode cX3_timed 13 = .ok (.ifCond .ne 7, 3) := by decide +kernel
theorem dX3_timed_16 : decode cX3_timed 16 = .ok (.iconst 1, 1) := by decide +kernel
theorem dX3_timed_17 : decode cX3_timed 17 = .ok (.goto 31, 3) := by decide +kernel
theorem dX3_timed_20 : decode cX3_timed 20 = .ok (.iload_n 3, 1) := by decide +kernel
theorem dX3_timed_21 : decode cX3_timed 21 = .ok (.iconst 0, 1) := by decide +kernel
theorem dX3_timed_22 : decode cX3_timed 22 = .ok (.ldc 131, 2) := by decide +kernel
theorem dX3_timed_24 : decode cX3_timed 24 = .ok (.invokestatic 79, 3) := by decide +kernel
theorem dX3_timed_27 : decode cX3_timed 27 = .ok (.ifCond .ne 7, 3) := by decide +kernel
theorem dX3_timed_30 : decode cX3_timed 30 = .ok (.iconst 2, 1) := by decide +kernel
theorem dX3_timed_31 : decode cX3_timed 31 = .ok (.goto 17, 3) := by decide +kernel
theorem dX3_timed_34 : decode cX3_timed 34 = .ok (.aload_n 0, 1) := by decide +kernel
theorem dX3_timed_35 : decode cX3_timed 35 = .ok (.iload_n 1, 1) := by decide +kernel
theorem dX3_timed_36 : decode cX3_timed 36 = .ok (.iconst 0, 1) := by decide +kernel
theorem dX3_timed_37 : decode cX3_timed 37 = .ok (.invokevirtual 101, 3) := by decide +kernel
theorem dX3_timed_40 : decode cX3_timed 40 = .ok (.ifCond .eq 7, 3) := by decide +kernel
theorem dX3_timed_43 : decode cX3_timed 43 = .ok (.iconst 0, 1) := by decide +kernel
theorem dX3_timed_44 : decode cX3_timed 44 = .ok (.goto 4, 3) := by decide +kernel
theorem dX3_timed_47 : decode cX3_timed 47 = .ok (.iconst 3, 1) := by decide +kernel
theorem dX3_timed_48 : decode cX3_timed 48 = .ok (.putfield 45, 3) := by decide +kernel
theorem dX3_timed_51 : decode cX3_timed 51 = .ok (.aload_n 0, 1) := by decide +kernel
theorem dX3_timed_52 : decode cX3_timed 52 = .ok (.getfield 45, 3) := by decide +kernel
theorem dX3_timed_55 : decode cX3_timed 55 = .ok (.ifCond .le 5, 3) := by decide +kernel
theorem dX3_timed_58 : decode cX3_timed 58 = .ok (.iconst 0, 1) := by decide +kernel
theorem dX3_timed_59 : decode cX3_timed 59 = .ok (.ireturn, 1) := by decide +kernel
theorem dX3_timed_60 : decode cX3_timed 60 = .ok (.aload_n 0, 1) := by decide +kernel
theorem dX3_timed_61 : decode cX3_timed 61 = .ok (.invokevirtual 105, 3) := by decide +kernel
theorem dX3_timed_64 : decode cX3_timed 64 = .ok (.istore 5, 2) := by decide +kernel
theorem dX3_timed_66 : decode cX3_timed 66 = .ok (.bipush 32, 2) := by decide +kernel
theorem dX3_timed_68 : decode cX3_timed 68 = .ok (.iload 5, 2) := by decide +kernel
theorem dX3_timed_70 : decode cX3_timed 70 = .ok (.imul, 1) := by decide +kernel
theorem dX3_timed_71 : decode cX3_timed 71 = .ok (.iload_n 2, 1) := by decide +kernel
theorem dX3_timed_72 : decode cX3_timed 72 = .ok (.iadd, 1) := by decide +kernel
theorem dX3_timed_73 : decode cX3_timed 73 = .ok (.istore 6, 2) := by decide +kernel
theorem dX3_timed_75 : decode cX3_timed 75 = .ok (.aload_n 0, 1) := by decide +kernel
theorem dX3_timed_76 : decode cX3_timed 76 = .ok (.getfield 23, 3) := by decide +kernel
theorem dX3_timed_79 : decode cX3_timed 79 = .ok (.iload 6, 2) := by decide +kernel
theorem dX3_timed_81 : decode cX3_timed 81 = .ok (.iload_n 3, 1) := by decide +kernel
theorem dX3_timed_82 : decode cX3_timed 82 = .ok (.iconst 1, 1) := by decide +kernel
theorem dX3_timed_83 : decode cX3_timed 83 = .ok (.iadd, 1) := by decide +kernel
theorem dX3_timed_84 : decode cX3_timed 84 = .ok (.iastore, 1) := by decide +kernel
theorem dX3_timed_85 : decode cX3_timed 85 = .ok (.aload_n 0, 1) := by decide +kernel
theorem dX3_timed_86 : decode cX3_timed 86 = .ok (.getfield 26, 3) := by decide +kernel
theorem dX3_timed_89 : decode cX3_timed 89 = .ok (.iload 6, 2) := by decide +kernel
theorem dX3_timed_91 : decode cX3_timed 91 = .ok (.iload_n 1, 1) := by decide +kernel
theorem dX3_timed_92 : decode cX3_timed 92 = .ok (.iastore, 1) := by decide +kernel
theorem dX3_timed_93 : decode cX3_timed 93 = .ok (.aload_n 0, 1) := by decide +kernel
theorem dX3_timed_94 : decode cX3_timed 94 = .ok (.getfield 29, 3) := by decide +kernel
theorem dX3_timed_97 : decode cX3_timed 97 = .ok (.iload 6, 2) := by decide +kernel
theorem dX3_timed_99 : decode cX3_timed 99 = .ok (.iload 4, 2) := by decide +kernel
theorem dX3_timed_101 : decode cX3_timed 101 = .ok (.bastore, 1) := by decide +kernel
theorem dX3_timed_102 : decode cX3_timed 102 = .ok (.aload_n 0, 1) := by decide +kernel
theorem dX3_timed_103 : decode cX3_timed 103 = .ok (.iload_n 1, 1) := by decide +kernel
theorem dX3_timed_104 : decode cX3_timed 104 = .ok (.iload 5, 2) := by decide +kernel
theorem dX3_timed_106 : decode cX3_timed 106 = .ok (.invokevirtual 117, 3) := by decide +kernel
theorem dX3_timed_109 : decode cX3_timed 109 = .ok (.ireturn, 1) := by decide +kernel
set_option maxRecDepth 20000 in
theorem ggX3_isDelta_X3_in : GoodIn wsX3_isDelta wsX3_in := goodIn_r _ [5] (by decide +kernel) (by decide +kernel)
set_option maxRecDepth 20000 in
theorem gX3_isDelta_X3_in : GoodIn wsX3_isDelta (va_wsS RX3 79 yX3_in wsX3_in) := goodIn_app (goodIn_of _ (by decide +kernel)) ggX3_isDelta_X3_in
theorem dX3_isDelta_0 : decode cX3_isDelta 0 = .ok (.iload_n 1, 1) := by decide +kernel
theorem dX3_isDelta_1 : decode cX3_isDelta 1 = .ok (.iconst 0, 1) := by decide +kernel
theorem dX3_isDelta_2 : decode cX3_isDelta 2 = .ok (.aload_n 0, 1) := by decide +kernel
theorem dX3_isDelta_3 : decode cX3_isDelta 3 = .ok (.getfield 72, 3) := by decide +kernel
theorem dX3_isDelta_6 : decode cX3_isDelta 6 = .ok (.iconst 1, 1) := by decide +kernel
theorem dX3_isDelta_7 : decode cX3_isDelta 7 = .ok (.isub, 1) := by decide +kernel
theorem dX3_isDelta_8 : decode cX3_isDelta 8 = .ok (.invokestatic 79, 3) := by decide +kernel
theorem dX3_isDelta_11 : decode cX3_isDelta 11 = .ok (.ireturn, 1) := by decide +kernel
set_option maxRecDepth 20000 in
theorem ggX3_join_X3_isReplica : GoodIn wsX3_join wsX3_isReplica := goodIn_r _ [5, 6, 7, 4, 8] (by decide +kernel) (by decide +kernel)
set_option maxRecDepth 20000 in
theorem gX3_join_X3_isReplica : GoodIn wsX3_join (wsV RX3 94 RX3 yX3_isReplica wsX3_isReplica) := goodIn_app (goodIn_of _ (by decide +kernel)) ggX3_join_X3_isReplica
set_option maxRecDepth 20000 in
theorem ggX3_join_X3_isDelta : GoodIn wsX3_join wsX3_isDelta := goodIn_r _ [12, 13, 6, 7, 4, 8, 51, 52, 53, 54, 55, 56, 57, 58, 59, 60, 61, 62, 63, 64] (by decide +kernel) (by decide +kernel)
set_option maxRecDepth 20000 in
theorem gX3_join_X3_isDelta : GoodIn wsX3_join (wsV RX3 132 RX3 yX3_isDelta wsX3_isDelta) := goodIn_app (goodIn_of _ (by decide +kernel)) ggX3_join_X3_isDelta
set_option maxRecDepth 20000 in
theorem ggX3_join_X3_goes : GoodIn wsX3_join wsX3_goes := goodIn_r _ [17, 18, 51, 52, 53, 54, 55, 56, 57, 58, 59, 60, 61, 62, 63, 64] (by decide +kernel) (by decide +kernel)
set_option maxRecDepth 20000 in
theorem gX3_join_X3_goes : GoodIn wsX3_join (wsV RX3 135 RX3 yX3_goes wsX3_goes) := goodIn_app (goodIn_of _ (by decide +kernel)) ggX3_join_X3_goes
set_option maxRecDepth 20000 in
theorem ggX3_join_X3_joined : GoodIn wsX3_join wsX3_joined := goodIn_r _ [22, 23, 24, 25, 4, 26, 27, 28, 29, 30, 31, 32, 33, 34, 35, 36, 37, 38, 39, 40, 41, 42, 43, 44, 45, 46, 47, 48, 49, 50, 51, 52, 53, 54, 55, 56, 57, 58, 59, 60, 61, 62, 63, 64] (by decide +kernel) (by decide +kernel)
set_option maxRecDepth 20000 in
theorem gX3_join_X3_joined : GoodIn wsX3_join (wsV RX3 139 RX3 yX3_joined wsX3_joined) := goodIn_app (goodIn_of _ (by decide +kernel)) ggX3_join_X3_joined
theorem dX3_join_0 : decode cX3_join 0 = .ok (.aload_n 0, 1) := by decide +kernel
theorem dX3_join_1 : decode cX3_join 1 = .ok (.aload_n 0, 1) := by decide +kernel
theorem dX3_join_2 : decode cX3_join 2 = .ok (.iload_n 1, 1) := by decide +kernel
theorem dX3_join_3 : decode cX3_join 3 = .ok (.invokevirtual 94, 3) := by decide +kernel
theorem dX3_join_6 : decode cX3_join 6 = .ok (.ifCond .eq 15, 3) := by decide +kernel
theorem dX3_join_9 : decode cX3_join 9 = .ok (.aload_n 0, 1) := by decide +kernel
theorem dX3_join_10 : decode cX3_join 10 = .ok (.iload_n 2, 1) := by decide +kernel
theorem dX3_join_11 : decode cX3_join 11 = .ok (.invokevirtual 132, 3) := by decide +kernel
theorem dX3_join_14 : decode cX3_join 14 = .ok (.ifCond .eq 7, 3) := by decide +kernel
theorem dX3_join_17 : decode cX3_join 17 = .ok (.iconst 1, 1) := by decide +kernel
theorem dX3_join_18 : decode cX3_join 18 = .ok (.goto 4, 3) := by decide +kernel
theorem dX3_join_21 : decode cX3_join 21 = .ok (.iconst 0, 1) := by decide +kernel
theorem dX3_join_22 : decode cX3_join 22 = .ok (.invokevirtual 135, 3) := by decide +kernel
theorem dX3_join_25 : decode cX3_join 25 = .ok (.ifCond .eq 15, 3) := by decide +kernel
theorem dX3_join_28 : decode cX3_join 28 = .ok (.aload_n 0, 1) := by decide +kernel
theorem dX3_join_29 : decode cX3_join 29 = .ok (.bipush 6, 2) := by decide +kernel
theorem dX3_join_31 : decode cX3_join 31 = .ok (.iload_n 2, 1) := by decide +kernel
theorem dX3_join_32 : decode cX3_join 32 = .ok (.iadd, 1) := by decide +kernel
theorem dX3_join_33 : decode cX3_join 33 = .ok (.iload_n 1, 1) := by decide +kernel
theorem dX3_join_34 : decode cX3_join 34 = .ok (.invokevirtual 139, 3) := by decide +kernel
theorem dX3_join_37 : decode cX3_join 37 = .ok (.goto 4, 3) := by decide +kernel
theorem dX3_join_40 : decode cX3_join 40 = .ok (.iconst 0, 1) := by decide +kernel
theorem dX3_join_41 : decode cX3_join 41 = .ok (.ireturn, 1) := by decide +kernel
set_option maxRecDepth 20000 in
theorem ggX3_merge_X3_isReplica : GoodIn wsX3_merge wsX3_isReplica := goodIn_r _ [5, 6, 7, 4, 8] (by decide +kernel) (by decide +kernel)
set_option maxRecDepth 20000 in
theorem gX3_merge_X3_isReplica : GoodIn wsX3_merge (wsV RX3 94 RX3 yX3_isReplica wsX3_isReplica) := goodIn_app (goodIn_of _ (by decide +kernel)) ggX3_merge_X3_isReplica
set_option maxRecDepth 20000 in
theorem ggX3_merge_X3_goes : GoodIn wsX3_merge wsX3_goes := goodIn_r _ [12, 13, 46, 47, 48, 49, 50, 51, 52, 53, 54, 55, 56, 57, 58, 59] (by decide +kernel) (by decide +kernel)
set_option maxRecDepth 20000 in
theorem gX3_merge_X3_goes : GoodIn wsX3_merge (wsV RX3 135 RX3 yX3_goes wsX3_goes) := goodIn_app (goodIn_of _ (by decide +kernel)) ggX3_merge_X3_goes
set_option maxRecDepth 20000 in
theorem ggX3_merge_X3_joined : GoodIn wsX3_merge wsX3_joined := goodIn_r _ [17, 18, 19, 20, 4, 21, 22, 23, 24, 25, 26, 27, 28, 29, 30, 31, 32, 33, 34, 35, 36, 37, 38, 39, 40, 41, 42, 43, 44, 45, 46, 47, 48, 49, 50, 51, 52, 53, 54, 55, 56, 57, 58, 59] (by decide +kernel) (by decide +kernel)
set_option maxRecDepth 20000 in
theorem gX3_merge_X3_joined : GoodIn wsX3_merge (wsV RX3 139 RX3 yX3_joined wsX3_joined) := goodIn_app (goodIn_of _ (by decide +kernel)) ggX3_merge_X3_joined
theorem dX3_merge_0 : decode cX3_merge 0 = .ok (.aload_n 0, 1) := by decide +kernel
theorem dX3_merge_1 : decode cX3_merge 1 = .ok (.aload_n 0, 1) := by decide +kernel
theorem dX3_merge_2 : decode cX3_merge 2 = .ok (.iload_n 1, 1) := by decide +kernel
theorem dX3_merge_3 : decode cX3_merge 3 = .ok (.invokevirtual 94, 3) := by decide +kernel
theorem dX3_merge_6 : decode cX3_merge 6 = .ok (.ifCond .eq 15, 3) := by decide +kernel
theorem dX3_merge_9 : decode cX3_merge 9 = .ok (.aload_n 0, 1) := by decide +kernel
theorem dX3_merge_10 : decode cX3_merge 10 = .ok (.iload_n 2, 1) := by decide +kernel
theorem dX3_merge_11 : decode cX3_merge 11 = .ok (.invokevirtual 94, 3) := by decide +kernel
theorem dX3_merge_14 : decode cX3_merge 14 = .ok (.ifCond .eq 7, 3) := by decide +kernel
theorem dX3_merge_17 : decode cX3_merge 17 = .ok (.iconst 1, 1) := by decide +kernel
theorem dX3_merge_18 : decode cX3_merge 18 = .ok (.goto 4, 3) := by decide +kernel
theorem dX3_merge_21 : decode cX3_merge 21 = .ok (.iconst 0, 1) := by decide +kernel
theorem dX3_merge_22 : decode cX3_merge 22 = .ok (.invokevirtual 135, 3) := by decide +kernel
theorem dX3_merge_25 : decode cX3_merge 25 = .ok (.ifCond .eq 12, 3) := by decide +kernel
theorem dX3_merge_28 : decode cX3_merge 28 = .ok (.aload_n 0, 1) := by decide +kernel
theorem dX3_merge_29 : decode cX3_merge 29 = .ok (.iload_n 2, 1) := by decide +kernel
theorem dX3_merge_30 : decode cX3_merge 30 = .ok (.iload_n 1, 1) := by decide +kernel
theorem dX3_merge_31 : decode cX3_merge 31 = .ok (.invokevirtual 139, 3) := by decide +kernel
theorem dX3_merge_34 : decode cX3_merge 34 = .ok (.goto 4, 3) := by decide +kernel
theorem dX3_merge_37 : decode cX3_merge 37 = .ok (.iconst 0, 1) := by decide +kernel
theorem dX3_merge_38 : decode cX3_merge 38 = .ok (.ireturn, 1) := by decide +kernel
set_option maxRecDepth 20000 in
theorem ggX3_group_X3_isDelta : GoodIn wsX3_group wsX3_isDelta := goodIn_r _ [7, 1, 8, 9, 6, 10, 39, 40, 41, 42, 43, 44, 45, 46, 47, 48, 49, 50, 51, 52] (by decide +kernel) (by decide +kernel)
set_option maxRecDepth 20000 in
theorem gX3_group_X3_isDelta : GoodIn wsX3_group (wsV RX3 132 RX3 yX3_isDelta wsX3_isDelta) := goodIn_app (goodIn_of _ (by decide +kernel)) ggX3_group_X3_isDelta
set_option maxRecDepth 20000 in
theorem ggX3_group_X3_fresh : GoodIn wsX3_group wsX3_fresh := goodIn_r _ [14, 1, 15, 16, 17, 6, 18, 19, 20, 21, 22, 23, 24, 25, 39, 40, 41, 42, 43, 44, 45, 46, 47, 48, 49, 50, 51, 52] (by decide +kernel) (by decide +kernel)
set_option maxRecDepth 20000 in
theorem gX3_group_X3_fresh : GoodIn wsX3_group (wsV RX3 105 RX3 yX3_fresh wsX3_fresh) := goodIn_app (goodIn_of _ (by decide +kernel)) ggX3_group_X3_fresh
set_option maxRecDepth 20000 in
theorem ggX3_group_X3_joinTo : GoodIn wsX3_group wsX3_joinTo := goodIn_r _ [29, 20, 19, 30, 21, 22, 31, 32, 33, 6, 34, 23, 24, 25, 35, 36, 37, 38, 39, 40, 41, 42, 43, 44, 45, 46, 47, 48, 49, 50, 51, 52] (by decide +kernel) (by decide +kernel)
set_option maxRecDepth 20000 in
theorem gX3_group_X3_joinTo : GoodIn wsX3_group (wsV RX3 66 RX3 yX3_joinTo wsX3_joinTo) := goodIn_app (goodIn_of _ (by decide +kernel)) ggX3_group_X3_joinTo
theorem dX3_group_0 : decode cX3_group 0 = .ok (.aload_n 0, 1) := by decide +kernel
theorem dX3_group_1 : decode cX3_group 1 = .ok (.aload_n 0, 1) := by decide +kernel
theorem dX3_group_2 : decode cX3_group 2 = .ok (.iload_n 1, 1) := by decide +kernel
theorem dX3_group_3 : decode cX3_group 3 = .ok (.invokevirtual 132, 3) := by decide +kernel
theorem dX3_group_6 : decode cX3_group 6 = .ok (.ifCond .eq 11, 3) := by decide +kernel
theorem dX3_group_9 : decode cX3_group 9 = .ok (.aload_n 0, 1) := by decide +kernel
theorem dX3_group_10 : decode cX3_group 10 = .ok (.iload_n 2, 1) := by decide +kernel
theorem dX3_group_11 : decode cX3_group 11 = .ok (.invokevirtual 132, 3) := by decide +kernel
theorem dX3_group_14 : decode cX3_group 14 = .ok (.ifCond .ne 7, 3) := by decide +kernel
theorem dX3_group_17 : decode cX3_group 17 = .ok (.iconst 1, 1) := by decide +kernel
theorem dX3_group_18 : decode cX3_group 18 = .ok (.goto 18, 3) := by decide +kernel
theorem dX3_group_21 : decode cX3_group 21 = .ok (.aload_n 0, 1) := by decide +kernel
theorem dX3_group_22 : decode cX3_group 22 = .ok (.getfield 72, 3) := by decide +kernel
theorem dX3_group_25 : decode cX3_group 25 = .ok (.sipush 250, 3) := by decide +kernel
theorem dX3_group_28 : decode cX3_group 28 = .ok (.if_icmp .ne 7, 3) := by decide +kernel
theorem dX3_group_31 : decode cX3_group 31 = .ok (.iconst 2, 1) := by decide +kernel
theorem dX3_group_32 : decode cX3_group 32 = .ok (.goto 4, 3) := by decide +kernel
theorem dX3_group_35 : decode cX3_group 35 = .ok (.iconst 0, 1) := by decide +kernel
theorem dX3_group_36 : decode cX3_group 36 = .ok (.putfield 45, 3) := by decide +kernel
theorem dX3_group_39 : decode cX3_group 39 = .ok (.aload_n 0, 1) := by decide +kernel
theorem dX3_group_40 : decode cX3_group 40 = .ok (.getfield 45, 3) := by decide +kernel
theorem dX3_group_43 : decode cX3_group 43 = .ok (.ifCond .le 5, 3) := by decide +kernel
theorem dX3_group_46 : decode cX3_group 46 = .ok (.iconst 0, 1) := by decide +kernel
theorem dX3_group_47 : decode cX3_group 47 = .ok (.ireturn, 1) := by decide +kernel
theorem dX3_group_48 : decode cX3_group 48 = .ok (.aload_n 0, 1) := by decide +kernel
theorem dX3_group_49 : decode cX3_group 49 = .ok (.invokevirtual 105, 3) := by decide +kernel
theorem dX3_group_52 : decode cX3_group 52 = .ok (.istore_n 3, 1) := by decide +kernel
theorem dX3_group_53 : decode cX3_group 53 = .ok (.aload_n 0, 1) := by decide +kernel
theorem dX3_group_54 : decode cX3_group 54 = .ok (.bipush 6, 2) := by decide +kernel
theorem dX3_group_56 : decode cX3_group 56 = .ok (.iload_n 1, 1) := by decide +kernel
theorem dX3_group_57 : decode cX3_group 57 = .ok (.iadd, 1) := by decide +kernel
theorem dX3_group_58 : decode cX3_group 58 = .ok (.iload_n 3, 1) := by decide +kernel
theorem dX3_group_59 : decode cX3_group 59 = .ok (.invokevirtual 66, 3) := by decide +kernel
theorem dX3_group_62 : decode cX3_group 62 = .ok (.aload_n 0, 1) := by decide +kernel
theorem dX3_group_63 : decode cX3_group 63 = .ok (.bipush 6, 2) := by decide +kernel
theorem dX3_group_65 : decode cX3_group 65 = .ok (.iload_n 2, 1) := by decide +kernel
theorem dX3_group_66 : decode cX3_group 66 = .ok (.iadd, 1) := by decide +kernel
theorem dX3_group_67 : decode cX3_group 67 = .ok (.iload_n 3, 1) := by decide +kernel
theorem dX3_group_68 : decode cX3_group 68 = .ok (.invokevirtual 66, 3) := by decide +kernel
theorem dX3_group_71 : decode cX3_group 71 = .ok (.aload_n 0, 1) := by decide +kernel
theorem dX3_group_72 : decode cX3_group 72 = .ok (.dup, 1) := by decide +kernel
theorem dX3_group_73 : decode cX3_group 73 = .ok (.getfield 72, 3) := by decide +kernel
theorem dX3_group_76 : decode cX3_group 76 = .ok (.iconst 1, 1) := by decide +kernel
theorem dX3_group_77 : decode cX3_group 77 = .ok (.iadd, 1) := by decide +kernel
theorem dX3_group_78 : decode cX3_group 78 = .ok (.putfield 72, 3) := by decide +kernel
theorem dX3_group_81 : decode cX3_group 81 = .ok (.aload_n 0, 1) := by decide +kernel
theorem dX3_group_82 : decode cX3_group 82 = .ok (.getfield 72, 3) := by decide +kernel
theorem dX3_group_85 : decode cX3_group 85 = .ok (.iconst 1, 1) := by decide +kernel
theorem dX3_group_86 : decode cX3_group 86 = .ok (.isub, 1) := by decide +kernel
theorem dX3_group_87 : decode cX3_group 87 = .ok (.ireturn, 1) := by decide +kernel
set_option maxRecDepth 20000 in
theorem ggX3_whole_X3_isReplica : GoodIn wsX3_whole wsX3_isReplica := goodIn_r _ [7, 8, 9, 6, 10] (by decide +kernel) (by decide +kernel)
set_option maxRecDepth 20000 in
theorem gX3_whole_X3_isReplica : GoodIn wsX3_whole (wsV RX3 94 RX3 yX3_isReplica wsX3_isReplica) := goodIn_app (goodIn_of _ (by decide +kernel)) ggX3_whole_X3_isReplica
set_option maxRecDepth 20000 in
theorem ggX3_whole_X3_copy : GoodIn wsX3_whole wsX3_copy := goodIn_r _ [14, 15, 16, 17, 18, 19, 20, 21, 6, 22, 23, 24, 25, 26, 27, 28, 29, 30, 31, 32, 33, 34, 35, 36, 37, 38, 39] (by decide +kernel) (by decide +kernel)
set_option maxRecDepth 20000 in
theorem gX3_whole_X3_copy : GoodIn wsX3_whole (wsV RX3 63 RX3 yX3_copy wsX3_copy) := goodIn_app (goodIn_of _ (by decide +kernel)) ggX3_whole_X3_copy
theorem dX3_whole_0 : decode cX3_whole 0 = .ok (.aload_n 0, 1) := by decide +kernel
theorem dX3_whole_1 : decode cX3_whole 1 = .ok (.aload_n 0, 1) := by decide +kernel
theorem dX3_whole_2 : decode cX3_whole 2 = .ok (.iload_n 1, 1) := by decide +kernel
theorem dX3_whole_3 : decode cX3_whole 3 = .ok (.invokevirtual 94, 3) := by decide +kernel
theorem dX3_whole_6 : decode cX3_whole 6 = .ok (.ifCond .ne 7, 3) := by decide +kernel
theorem dX3_whole_9 : decode cX3_whole 9 = .ok (.iconst 1, 1) := by decide +kernel
theorem dX3_whole_10 : decode cX3_whole 10 = .ok (.goto 18, 3) := by decide +kernel
theorem dX3_whole_13 : decode cX3_whole 13 = .ok (.aload_n 0, 1) := by decide +kernel
theorem dX3_whole_14 : decode cX3_whole 14 = .ok (.getfield 72, 3) := by decide +kernel
theorem dX3_whole_17 : decode cX3_whole 17 = .ok (.sipush 250, 3) := by decide +kernel
theorem dX3_whole_20 : decode cX3_whole 20 = .ok (.if_icmp .ne 7, 3) := by decide +kernel
theorem dX3_whole_23 : decode cX3_whole 23 = .ok (.iconst 2, 1) := by decide +kernel
theorem dX3_whole_24 : decode cX3_whole 24 = .ok (.goto 4, 3) := by decide +kernel
theorem dX3_whole_27 : decode cX3_whole 27 = .ok (.iconst 0, 1) := by decide +kernel
theorem dX3_whole_28 : decode cX3_whole 28 = .ok (.putfield 45, 3) := by decide +kernel
theorem dX3_whole_31 : decode cX3_whole 31 = .ok (.aload_n 0, 1) := by decide +kernel
theorem dX3_whole_32 : decode cX3_whole 32 = .ok (.getfield 45, 3) := by decide +kernel
theorem dX3_whole_35 : decode cX3_whole 35 = .ok (.ifCond .le 5, 3) := by decide +kernel
theorem dX3_whole_38 : decode cX3_whole 38 = .ok (.iconst 0, 1) := by decide +kernel
theorem dX3_whole_39 : decode cX3_whole 39 = .ok (.ireturn, 1) := by decide +kernel
theorem dX3_whole_40 : decode cX3_whole 40 = .ok (.aload_n 0, 1) := by decide +kernel
theorem dX3_whole_41 : decode cX3_whole 41 = .ok (.iload_n 1, 1) := by decide +kernel
theorem dX3_whole_42 : decode cX3_whole 42 = .ok (.bipush 6, 2) := by decide +kernel
theorem dX3_whole_44 : decode cX3_whole 44 = .ok (.aload_n 0, 1) := by decide +kernel
theorem dX3_whole_45 : decode cX3_whole 45 = .ok (.getfield 72, 3) := by decide +kernel
theorem dX3_whole_48 : decode cX3_whole 48 = .ok (.iadd, 1) := by decide +kernel
theorem dX3_whole_49 : decode cX3_whole 49 = .ok (.invokevirtual 63, 3) := by decide +kernel
theorem dX3_whole_52 : decode cX3_whole 52 = .ok (.aload_n 0, 1) := by decide +kernel
theorem dX3_whole_53 : decode cX3_whole 53 = .ok (.dup, 1) := by decide +kernel
theorem dX3_whole_54 : decode cX3_whole 54 = .ok (.getfield 72, 3) := by decide +kernel
theorem dX3_whole_57 : decode cX3_whole 57 = .ok (.iconst 1, 1) := by decide +kernel
theorem dX3_whole_58 : decode cX3_whole 58 = .ok (.iadd, 1) := by decide +kernel
theorem dX3_whole_59 : decode cX3_whole 59 = .ok (.putfield 72, 3) := by decide +kernel
theorem dX3_whole_62 : decode cX3_whole 62 = .ok (.aload_n 0, 1) := by decide +kernel
theorem dX3_whole_63 : decode cX3_whole 63 = .ok (.getfield 72, 3) := by decide +kernel
theorem dX3_whole_66 : decode cX3_whole 66 = .ok (.iconst 1, 1) := by decide +kernel
theorem dX3_whole_67 : decode cX3_whole 67 = .ok (.isub, 1) := by decide +kernel
theorem dX3_whole_68 : decode cX3_whole 68 = .ok (.ireturn, 1) := by decide +kernel
theorem dX3_deltas_0 : decode cX3_deltas 0 = .ok (.aload_n 0, 1) := by decide +kernel
theorem dX3_deltas_1 : decode cX3_deltas 1 = .ok (.iconst 0, 1) := by decide +kernel
theorem dX3_deltas_2 : decode cX3_deltas 2 = .ok (.putfield 45, 3) := by decide +kernel
theorem dX3_deltas_5 : decode cX3_deltas 5 = .ok (.aload_n 0, 1) := by decide +kernel
theorem dX3_deltas_6 : decode cX3_deltas 6 = .ok (.getfield 72, 3) := by decide +kernel
theorem dX3_deltas_9 : decode cX3_deltas 9 = .ok (.ireturn, 1) := by decide +kernel
set_option maxRecDepth 20000 in
theorem ggX3_has_X3_isReplica : GoodIn wsX3_has wsX3_isReplica := goodIn_r _ [8, 9, 10, 7, 11] (by decide +kernel) (by decide +kernel)
set_option maxRecDepth 20000 in
theorem gX3_has_X3_isReplica : GoodIn wsX3_has (wsV RX3 94 RX3 yX3_isReplica wsX3_isReplica) := goodIn_app (goodIn_of _ (by decide +kernel)) ggX3_has_X3_isReplica
set_option maxRecDepth 20000 in
theorem ggX3_has_X3_isKey : GoodIn wsX3_has wsX3_isKey := goodIn_r _ [14, 9, 10, 7, 11] (by decide +kernel) (by decide +kernel)
set_option maxRecDepth 20000 in
theorem gX3_has_X3_isKey : GoodIn wsX3_has (va_wsS RX3 98 yX3_isKey wsX3_isKey) := goodIn_app (goodIn_of _ (by decide +kernel)) ggX3_has_X3_isKey
set_option maxRecDepth 20000 in
theorem ggX3_has_X3_isElement : GoodIn wsX3_has wsX3_isElement := goodIn_r _ [17, 9, 10, 7, 11] (by decide +kernel) (by decide +kernel)
set_option maxRecDepth 20000 in
theorem gX3_has_X3_isElement : GoodIn wsX3_has (va_wsS RX3 120 yX3_isElement wsX3_isElement) := goodIn_app (goodIn_of _ (by decide +kernel)) ggX3_has_X3_isElement
set_option maxRecDepth 20000 in
theorem ggX3_has_X3_goes : GoodIn wsX3_has wsX3_goes := goodIn_r _ [21, 22, 29, 30, 31, 32, 33, 34, 35, 36, 37, 38, 39, 40, 41, 42] (by decide +kernel) (by decide +kernel)
set_option maxRecDepth 20000 in
theorem gX3_has_X3_goes : GoodIn wsX3_has (wsV RX3 135 RX3 yX3_goes wsX3_goes) := goodIn_app (goodIn_of _ (by decide +kernel)) ggX3_has_X3_goes
set_option maxRecDepth 20000 in
theorem ggX3_has_X3_dot : GoodIn wsX3_has wsX3_dot := goodIn_r _ [25] (by decide +kernel) (by decide +kernel)
set_option maxRecDepth 20000 in
theorem gX3_has_X3_dot : GoodIn wsX3_has (va_wsS RX3 83 yX3_dot wsX3_dot) := goodIn_app (goodIn_of _ (by decide +kernel)) ggX3_has_X3_dot
set_option maxRecDepth 20000 in
theorem ggX3_has_X3_isSet : GoodIn wsX3_has wsX3_isSet := goodIn_r _ [28] (by decide +kernel) (by decide +kernel)
set_option maxRecDepth 20000 in
theorem gX3_has_X3_isSet : GoodIn wsX3_has (va_wsS RX3 49 yX3_isSet wsX3_isSet) := goodIn_app (goodIn_of _ (by decide +kernel)) ggX3_has_X3_isSet
theorem dX3_has_0 : decode cX3_has 0 = .ok (.aload_n 0, 1) := by decide +kernel
theorem dX3_has_1 : decode cX3_has 1 = .ok (.aload_n 0, 1) := by decide +kernel
theorem dX3_has_2 : decode cX3_has 2 = .ok (.iload_n 1, 1) := by decide +kernel
theorem dX3_has_3 : decode cX3_has 3 = .ok (.invokevirtual 94, 3) := by decide +kernel
theorem dX3_has_6 : decode cX3_has 6 = .ok (.ifCond .eq 21, 3) := by decide +kernel
theorem dX3_has_9 : decode cX3_has 9 = .ok (.iload_n 2, 1) := by decide +kernel
theorem dX3_has_10 : decode cX3_has 10 = .ok (.invokestatic 98, 3) := by decide +kernel
theorem dX3_has_13 : decode cX3_has 13 = .ok (.ifCond .eq 14, 3) := by decide +kernel
theorem dX3_has_16 : decode cX3_has 16 = .ok (.iload_n 3, 1) := by decide +kernel
theorem dX3_has_17 : decode cX3_has 17 = .ok (.invokestatic 120, 3) := by decide +kernel
theorem dX3_has_20 : decode cX3_has 20 = .ok (.ifCond .eq 7, 3) := by decide +kernel
theorem dX3_has_23 : decode cX3_has 23 = .ok (.iconst 1, 1) := by decide +kernel
theorem dX3_has_24 : decode cX3_has 24 = .ok (.goto 4, 3) := by decide +kernel
theorem dX3_has_27 : decode cX3_has 27 = .ok (.iconst 0, 1) := by decide +kernel
theorem dX3_has_28 : decode cX3_has 28 = .ok (.invokevirtual 135, 3) := by decide +kernel
theorem dX3_has_31 : decode cX3_has 31 = .ok (.ifCond .ne 5, 3) := by decide +kernel
theorem dX3_has_34 : decode cX3_has 34 = .ok (.iconst 0, 1) := by decide +kernel
theorem dX3_has_35 : decode cX3_has 35 = .ok (.ireturn, 1) := by decide +kernel
theorem dX3_has_36 : decode cX3_has 36 = .ok (.iconst 0, 1) := by decide +kernel
theorem dX3_has_37 : decode cX3_has 37 = .ok (.istore 4, 2) := by decide +kernel
theorem dX3_has_39 : decode cX3_has 39 = .ok (.iload 4, 2) := by decide +kernel
theorem dX3_has_41 : decode cX3_has 41 = .ok (.bipush 6, 2) := by decide +kernel
theorem dX3_has_43 : decode cX3_has 43 = .ok (.if_icmp .ge 73, 3) := by decide +kernel
theorem dX3_has_46 : decode cX3_has 46 = .ok (.iconst 1, 1) := by decide +kernel
theorem dX3_has_47 : decode cX3_has 47 = .ok (.istore 5, 2) := by decide +kernel
theorem dX3_has_49 : decode cX3_has 49 = .ok (.iload 5, 2) := by decide +kernel
theorem dX3_has_51 : decode cX3_has 51 = .ok (.bipush 100, 2) := by decide +kernel
theorem dX3_has_53 : decode cX3_has 53 = .ok (.if_icmp .gt 57, 3) := by decide +kernel
theorem dX3_has_56 : decode cX3_has 56 = .ok (.iload 4, 2) := by decide +kernel
theorem dX3_has_58 : decode cX3_has 58 = .ok (.iload 5, 2) := by decide +kernel
theorem dX3_has_60 : decode cX3_has 60 = .ok (.invokestatic 83, 3) := by decide +kernel
theorem dX3_has_63 : decode cX3_has 63 = .ok (.istore 6, 2) := by decide +kernel
theorem dX3_has_65 : decode cX3_has 65 = .ok (.aload_n 0, 1) := by decide +kernel
theorem dX3_has_66 : decode cX3_has 66 = .ok (.getfield 13, 3) := by decide +kernel
theorem dX3_has_69 : decode cX3_has 69 = .ok (.iload_n 1, 1) := by decide +kernel
theorem dX3_has_70 : decode cX3_has 70 = .ok (.iload 4, 2) := by decide +kernel
theorem dX3_has_72 : decode cX3_has 72 = .ok (.iload 5, 2) := by decide +kernel
theorem dX3_has_74 : decode cX3_has 74 = .ok (.invokestatic 49, 3) := by decide +kernel
theorem dX3_has_77 : decode cX3_has 77 = .ok (.ifCond .eq 27, 3) := by decide +kernel
theorem dX3_has_80 : decode cX3_has 80 = .ok (.aload_n 0, 1) := by decide +kernel
theorem dX3_has_81 : decode cX3_has 81 = .ok (.getfield 33, 3) := by decide +kernel
theorem dX3_has_84 : decode cX3_has 84 = .ok (.iload 6, 2) := by decide +kernel
theorem dX3_has_86 : decode cX3_has 86 = .ok (.iaload, 1) := by decide +kernel
theorem dX3_has_87 : decode cX3_has 87 = .ok (.iload_n 2, 1) := by decide +kernel
theorem dX3_has_88 : decode cX3_has 88 = .ok (.if_icmp .ne 16, 3) := by decide +kernel
theorem dX3_has_91 : decode cX3_has 91 = .ok (.aload_n 0, 1) := by decide +kernel
theorem dX3_has_92 : decode cX3_has 92 = .ok (.getfield 36, 3) := by decide +kernel
theorem dX3_has_95 : decode cX3_has 95 = .ok (.iload 6, 2) := by decide +kernel
theorem dX3_has_97 : decode cX3_has 97 = .ok (.iaload, 1) := by decide +kernel
theorem dX3_has_98 : decode cX3_has 98 = .ok (.iload_n 3, 1) := by decide +kernel
theorem dX3_has_99 : decode cX3_has 99 = .ok (.if_icmp .ne 5, 3) := by decide +kernel
theorem dX3_has_102 : decode cX3_has 102 = .ok (.iconst 1, 1) := by decide +kernel
theorem dX3_has_103 : decode cX3_has 103 = .ok (.ireturn, 1) := by decide +kernel
theorem dX3_has_104 : decode cX3_has 104 = .ok (.iinc 5 1, 3) := by decide +kernel
theorem dX3_has_107 : decode cX3_has 107 = .ok (.goto (-58), 3) := by decide +kernel
theorem dX3_has_110 : decode cX3_has 110 = .ok (.iinc 4 1, 3) := by decide +kernel
theorem dX3_has_113 : decode cX3_has 113 = .ok (.goto (-74), 3) := by decide +kernel
theorem dX3_has_116 : decode cX3_has 116 = .ok (.iconst 0, 1) := by decide +kernel
theorem dX3_has_117 : decode cX3_has 117 = .ok (.ireturn, 1) := by decide +kernel
set_option maxRecDepth 20000 in
theorem ggX3_lay_X3_dot : GoodIn wsX3_lay wsX3_dot := goodIn_r _ [8] (by decide +kernel) (by decide +kernel)
set_option maxRecDepth 20000 in
theorem gX3_lay_X3_dot : GoodIn wsX3_lay (va_wsS RX3 83 yX3_dot wsX3_dot) := goodIn_app (goodIn_of _ (by decide +kernel)) ggX3_lay_X3_dot
set_option maxRecDepth 20000 in
theorem ggX3_lay_X3_isSet : GoodIn wsX3_lay wsX3_isSet := goodIn_r _ [11] (by decide +kernel) (by decide +kernel)
set_option maxRecDepth 20000 in
theorem gX3_lay_X3_isSet : GoodIn wsX3_lay (va_wsS RX3 49 yX3_isSet wsX3_isSet) := goodIn_app (goodIn_of _ (by decide +kernel)) ggX3_lay_X3_isSet
set_option maxRecDepth 20000 in
theorem ggX3_lay_X3_enter : GoodIn wsX3_lay wsX3_enter := goodIn_r _ [15, 1, 16, 17, 18, 19, 20, 21, 22, 23, 24, 25, 26, 27, 28, 29, 30] (by decide +kernel) (by decide +kernel)
set_option maxRecDepth 20000 in
theorem gX3_lay_X3_enter : GoodIn wsX3_lay (wsV RX3 145 RX3 yX3_enter wsX3_enter) := goodIn_app (goodIn_of _ (by decide +kernel)) ggX3_lay_X3_enter
theorem dX3_lay_0 : decode cX3_lay 0 = .ok (.aload_n 0, 1) := by decide +kernel
theorem dX3_lay_1 : decode cX3_lay 1 = .ok (.iconst 0, 1) := by decide +kernel
theorem dX3_lay_2 : decode cX3_lay 2 = .ok (.putfield 142, 3) := by decide +kernel
theorem dX3_lay_5 : decode cX3_lay 5 = .ok (.iconst 0, 1) := by decide +kernel
theorem dX3_lay_6 : decode cX3_lay 6 = .ok (.istore_n 3, 1) := by decide +kernel
theorem dX3_lay_7 : decode cX3_lay 7 = .ok (.iload_n 3, 1) := by decide +kernel
theorem dX3_lay_8 : decode cX3_lay 8 = .ok (.bipush 6, 2) := by decide +kernel
theorem dX3_lay_10 : decode cX3_lay 10 = .ok (.if_icmp .ge 69, 3) := by decide +kernel
theorem dX3_lay_13 : decode cX3_lay 13 = .ok (.iconst 1, 1) := by decide +kernel
theorem dX3_lay_14 : decode cX3_lay 14 = .ok (.istore 4, 2) := by decide +kernel
theorem dX3_lay_16 : decode cX3_lay 16 = .ok (.iload 4, 2) := by decide +kernel
theorem dX3_lay_18 : decode cX3_lay 18 = .ok (.bipush 100, 2) := by decide +kernel
theorem dX3_lay_20 : decode cX3_lay 20 = .ok (.if_icmp .gt 53, 3) := by decide +kernel
theorem dX3_lay_23 : decode cX3_lay 23 = .ok (.iload_n 3, 1) := by decide +kernel
theorem dX3_lay_24 : decode cX3_lay 24 = .ok (.iload 4, 2) := by decide +kernel
theorem dX3_lay_26 : decode cX3_lay 26 = .ok (.invokestatic 83, 3) := by decide +kernel
theorem dX3_lay_29 : decode cX3_lay 29 = .ok (.istore 5, 2) := by decide +kernel
theorem dX3_lay_31 : decode cX3_lay 31 = .ok (.aload_n 0, 1) := by decide +kernel
theorem dX3_lay_32 : decode cX3_lay 32 = .ok (.getfield 13, 3) := by decide +kernel
theorem dX3_lay_35 : decode cX3_lay 35 = .ok (.iload_n 1, 1) := by decide +kernel
theorem dX3_lay_36 : decode cX3_lay 36 = .ok (.iload_n 3, 1) := by decide +kernel
theorem dX3_lay_37 : decode cX3_lay 37 = .ok (.iload 4, 2) := by decide +kernel
theorem dX3_lay_39 : decode cX3_lay 39 = .ok (.invokestatic 49, 3) := by decide +kernel
theorem dX3_lay_42 : decode cX3_lay 42 = .ok (.ifCond .eq 25, 3) := by decide +kernel
theorem dX3_lay_45 : decode cX3_lay 45 = .ok (.aload_n 0, 1) := by decide +kernel
theorem dX3_lay_46 : decode cX3_lay 46 = .ok (.getfield 33, 3) := by decide +kernel
theorem dX3_lay_49 : decode cX3_lay 49 = .ok (.iload 5, 2) := by decide +kernel
theorem dX3_lay_51 : decode cX3_lay 51 = .ok (.iaload, 1) := by decide +kernel
theorem dX3_lay_52 : decode cX3_lay 52 = .ok (.iload_n 2, 1) := by decide +kernel
theorem dX3_lay_53 : decode cX3_lay 53 = .ok (.if_icmp .ne 14, 3) := by decide +kernel
theorem dX3_lay_56 : decode cX3_lay 56 = .ok (.aload_n 0, 1) := by decide +kernel
theorem dX3_lay_57 : decode cX3_lay 57 = .ok (.aload_n 0, 1) := by decide +kernel
theorem dX3_lay_58 : decode cX3_lay 58 = .ok (.getfield 39, 3) := by decide +kernel
theorem dX3_lay_61 : decode cX3_lay 61 = .ok (.iload 5, 2) := by decide +kernel
theorem dX3_lay_63 : decode cX3_lay 63 = .ok (.laload, 1) := by decide +kernel
theorem dX3_lay_64 : decode cX3_lay 64 = .ok (.invokevirtual 145, 3) := by decide +kernel
theorem dX3_lay_67 : decode cX3_lay 67 = .ok (.iinc 4 1, 3) := by decide +kernel
theorem dX3_lay_70 : decode cX3_lay 70 = .ok (.goto (-54), 3) := by decide +kernel
theorem dX3_lay_73 : decode cX3_lay 73 = .ok (.iinc 3 1, 3) := by decide +kernel
theorem dX3_lay_76 : decode cX3_lay 76 = .ok (.goto (-69), 3) := by decide +kernel
theorem dX3_lay_79 : decode cX3_lay 79 = .ok (.return_, 1) := by decide +kernel
theorem dX3_enter_0 : decode cX3_enter 0 = .ok (.iconst 0, 1) := by decide +kernel
theorem dX3_enter_1 : decode cX3_enter 1 = .ok (.istore_n 3, 1) := by decide +kernel
theorem dX3_enter_2 : decode cX3_enter 2 = .ok (.iload_n 3, 1) := by decide +kernel
theorem dX3_enter_3 : decode cX3_enter 3 = .ok (.aload_n 0, 1) := by decide +kernel
theorem dX3_enter_4 : decode cX3_enter 4 = .ok (.getfield 142, 3) := by decide +kernel
theorem dX3_enter_7 : decode cX3_enter 7 = .ok (.if_icmp .ge 20, 3) := by decide +kernel
theorem dX3_enter_10 : decode cX3_enter 10 = .ok (.aload_n 0, 1) := by decide +kernel
theorem dX3_enter_11 : decode cX3_enter 11 = .ok (.getfield 42, 3) := by decide +kernel
theorem dX3_enter_14 : decode cX3_enter 14 = .ok (.iload_n 3, 1) := by decide +kernel
theorem dX3_enter_15 : decode cX3_enter 15 = .ok (.laload, 1) := by decide +kernel
theorem dX3_enter_16 : decode cX3_enter 16 = .ok (.lload_n 1, 1) := by decide +kernel
theorem dX3_enter_17 : decode cX3_enter 17 = .ok (.lcmp, 1) := by decide +kernel
theorem dX3_enter_18 : decode cX3_enter 18 = .ok (.ifCond .ge 9, 3) := by decide +kernel
theorem dX3_enter_21 : decode cX3_enter 21 = .ok (.iinc 3 1, 3) := by decide +kernel
theorem dX3_enter_24 : decode cX3_enter 24 = .ok (.goto (-22), 3) := by decide +kernel
theorem dX3_enter_27 : decode cX3_enter 27 = .ok (.iload_n 3, 1) := by decide +kernel
theorem dX3_enter_28 : decode cX3_enter 28 = .ok (.aload_n 0, 1) := by decide +kernel
theorem dX3_enter_29 : decode cX3_enter 29 = .ok (.getfield 142, 3) := by decide +kernel
theorem dX3_enter_32 : decode cX3_enter 32 = .ok (.if_icmp .ge 15, 3) := by decide +kernel
theorem dX3_enter_35 : decode cX3_enter 35 = .ok (.aload_n 0, 1) := by decide +kernel
theorem dX3_enter_36 : decode cX3_enter 36 = .ok (.getfield 42, 3) := by decide +kernel
theorem dX3_enter_39 : decode cX3_enter 39 = .ok (.iload_n 3, 1) := by decide +kernel
theorem dX3_enter_40 : decode cX3_enter 40 = .ok (.laload, 1) := by decide +kernel
theorem dX3_enter_41 : decode cX3_enter 41 = .ok (.lload_n 1, 1) := by decide +kernel
theorem dX3_enter_42 : decode cX3_enter 42 = .ok (.lcmp, 1) := by decide +kernel
theorem dX3_enter_43 : decode cX3_enter 43 = .ok (.ifCond .ne 4, 3) := by decide +kernel
theorem dX3_enter_46 : decode cX3_enter 46 = .ok (.return_, 1) := by decide +kernel
theorem dX3_enter_47 : decode cX3_enter 47 = .ok (.aload_n 0, 1) := by decide +kernel
theorem dX3_enter_48 : decode cX3_enter 48 = .ok (.getfield 142, 3) := by decide +kernel
theorem dX3_enter_51 : decode cX3_enter 51 = .ok (.istore 4, 2) := by decide +kernel
theorem dX3_enter_53 : decode cX3_enter 53 = .ok (.iload 4, 2) := by decide +kernel
theorem dX3_enter_55 : decode cX3_enter 55 = .ok (.iload_n 3, 1) := by decide +kernel
theorem dX3_enter_56 : decode cX3_enter 56 = .ok (.if_icmp .le 25, 3) := by decide +kernel
theorem dX3_enter_59 : decode cX3_enter 59 = .ok (.aload_n 0, 1) := by decide +kernel
theorem dX3_enter_60 : decode cX3_enter 60 = .ok (.getfield 42, 3) := by decide +kernel
theorem dX3_enter_63 : decode cX3_enter 63 = .ok (.iload 4, 2) := by decide +kernel
theorem dX3_enter_65 : decode cX3_enter 65 = .ok (.aload_n 0, 1) := by decide +kernel
theorem dX3_enter_66 : decode cX3_enter 66 = .ok (.getfield 42, 3) := by decide +kernel
theorem dX3_enter_69 : decode cX3_enter 69 = .ok (.iload 4, 2) := by decide +kernel
theorem dX3_enter_71 : decode cX3_enter 71 = .ok (.iconst 1, 1) := by decide +kernel
theorem dX3_enter_72 : decode cX3_enter 72 = .ok (.isub, 1) := by decide +kernel
theorem dX3_enter_73 : decode cX3_enter 73 = .ok (.laload, 1) := by decide +kernel
theorem dX3_enter_74 : decode cX3_enter 74 = .ok (.lastore, 1) := by decide +kernel
theorem dX3_enter_75 : decode cX3_enter 75 = .ok (.iinc 4 (-1), 3) := by decide +kernel
theorem dX3_enter_78 : decode cX3_enter 78 = .ok (.goto (-25), 3) := by decide +kernel
theorem dX3_enter_81 : decode cX3_enter 81 = .ok (.aload_n 0, 1) := by decide +kernel
theorem dX3_enter_82 : decode cX3_enter 82 = .ok (.getfield 42, 3) := by decide +kernel
theorem dX3_enter_85 : decode cX3_enter 85 = .ok (.iload_n 3, 1) := by decide +kernel
theorem dX3_enter_86 : decode cX3_enter 86 = .ok (.lload_n 1, 1) := by decide +kernel
theorem dX3_enter_87 : decode cX3_enter 87 = .ok (.lastore, 1) := by decide +kernel
theorem dX3_enter_88 : decode cX3_enter 88 = .ok (.aload_n 0, 1) := by decide +kernel
theorem dX3_enter_89 : decode cX3_enter 89 = .ok (.dup, 1) := by decide +kernel
theorem dX3_enter_90 : decode cX3_enter 90 = .ok (.getfield 142, 3) := by decide +kernel
theorem dX3_enter_93 : decode cX3_enter 93 = .ok (.iconst 1, 1) := by decide +kernel
theorem dX3_enter_94 : decode cX3_enter 94 = .ok (.iadd, 1) := by decide +kernel
theorem dX3_enter_95 : decode cX3_enter 95 = .ok (.putfield 142, 3) := by decide +kernel
theorem dX3_enter_98 : decode cX3_enter 98 = .ok (.return_, 1) := by decide +kernel
set_option maxRecDepth 20000 in
theorem ggX3_values_X3_isReplica : GoodIn wsX3_values wsX3_isReplica := goodIn_r _ [6, 7, 8, 5, 9] (by decide +kernel) (by decide +kernel)
set_option maxRecDepth 20000 in
theorem gX3_values_X3_isReplica : GoodIn wsX3_values (wsV RX3 94 RX3 yX3_isReplica wsX3_isReplica) := goodIn_app (goodIn_of _ (by decide +kernel)) ggX3_values_X3_isReplica
set_option maxRecDepth 20000 in
theorem ggX3_values_X3_isKey : GoodIn wsX3_values wsX3_isKey := goodIn_r _ [12, 7, 8, 5, 9] (by decide +kernel) (by decide +kernel)
set_option maxRecDepth 20000 in
theorem gX3_values_X3_isKey : GoodIn wsX3_values (va_wsS RX3 98 yX3_isKey wsX3_isKey) := goodIn_app (goodIn_of _ (by decide +kernel)) ggX3_values_X3_isKey
set_option maxRecDepth 20000 in
theorem ggX3_values_X3_goes : GoodIn wsX3_values wsX3_goes := goodIn_r _ [16, 17, 36, 37, 38, 39, 40, 41, 42, 43, 44, 45, 46, 47, 48, 49] (by decide +kernel) (by decide +kernel)
set_option maxRecDepth 20000 in
theorem gX3_values_X3_goes : GoodIn wsX3_values (wsV RX3 135 RX3 yX3_goes wsX3_goes) := goodIn_app (goodIn_of _ (by decide +kernel)) ggX3_values_X3_goes
set_option maxRecDepth 20000 in
theorem ggX3_values_X3_lay : GoodIn wsX3_values wsX3_lay := goodIn_r _ [21, 1, 22, 23, 24, 25, 26, 5, 27, 28, 29, 30, 31, 32, 33, 34, 35, 36, 37, 38, 39, 40, 41, 42, 43, 44, 45, 46, 47, 48, 49] (by decide +kernel) (by decide +kernel)
set_option maxRecDepth 20000 in
theorem gX3_values_X3_lay : GoodIn wsX3_values (wsV RX3 149 RX3 yX3_lay wsX3_lay) := goodIn_app (goodIn_of _ (by decide +kernel)) ggX3_values_X3_lay
theorem dX3_values_0 : decode cX3_values 0 = .ok (.aload_n 0, 1) := by decide +kernel
theorem dX3_values_1 : decode cX3_values 1 = .ok (.aload_n 0, 1) := by decide +kernel
theorem dX3_values_2 : decode cX3_values 2 = .ok (.iload_n 1, 1) := by decide +kernel
theorem dX3_values_3 : decode cX3_values 3 = .ok (.invokevirtual 94, 3) := by decide +kernel
theorem dX3_values_6 : decode cX3_values 6 = .ok (.ifCond .eq 14, 3) := by decide +kernel
theorem dX3_values_9 : decode cX3_values 9 = .ok (.iload_n 2, 1) := by decide +kernel
theorem dX3_values_10 : decode cX3_values 10 = .ok (.invokestatic 98, 3) := by decide +kernel
theorem dX3_values_13 : decode cX3_values 13 = .ok (.ifCond .eq 7, 3) := by decide +kernel
theorem dX3_values_16 : decode cX3_values 16 = .ok (.iconst 1, 1) := by decide +kernel
theorem dX3_values_17 : decode cX3_values 17 = .ok (.goto 4, 3) := by decide +kernel
theorem dX3_values_20 : decode cX3_values 20 = .ok (.iconst 0, 1) := by decide +kernel
theorem dX3_values_21 : decode cX3_values 21 = .ok (.invokevirtual 135, 3) := by decide +kernel
theorem dX3_values_24 : decode cX3_values 24 = .ok (.ifCond .ne 5, 3) := by decide +kernel
theorem dX3_values_27 : decode cX3_values 27 = .ok (.iconst 0, 1) := by decide +kernel
theorem dX3_values_28 : decode cX3_values 28 = .ok (.ireturn, 1) := by decide +kernel
theorem dX3_values_29 : decode cX3_values 29 = .ok (.aload_n 0, 1) := by decide +kernel
theorem dX3_values_30 : decode cX3_values 30 = .ok (.iload_n 1, 1) := by decide +kernel
theorem dX3_values_31 : decode cX3_values 31 = .ok (.iload_n 2, 1) := by decide +kernel
theorem dX3_values_32 : decode cX3_values 32 = .ok (.invokevirtual 149, 3) := by decide +kernel
theorem dX3_values_35 : decode cX3_values 35 = .ok (.aload_n 0, 1) := by decide +kernel
theorem dX3_values_36 : decode cX3_values 36 = .ok (.getfield 142, 3) := by decide +kernel
theorem dX3_values_39 : decode cX3_values 39 = .ok (.ireturn, 1) := by decide +kernel
set_option maxRecDepth 20000 in
theorem ggX3_value_X3_isReplica : GoodIn wsX3_value wsX3_isReplica := goodIn_r _ [7, 8, 9, 6, 10] (by decide +kernel) (by decide +kernel)
set_option maxRecDepth 20000 in
theorem gX3_value_X3_isReplica : GoodIn wsX3_value (wsV RX3 94 RX3 yX3_isReplica wsX3_isReplica) := goodIn_app (goodIn_of _ (by decide +kernel)) ggX3_value_X3_isReplica
set_option maxRecDepth 20000 in
theorem ggX3_value_X3_isKey : GoodIn wsX3_value wsX3_isKey := goodIn_r _ [13, 8, 9, 6, 10] (by decide +kernel) (by decide +kernel)
set_option maxRecDepth 20000 in
theorem gX3_value_X3_isKey : GoodIn wsX3_value (va_wsS RX3 98 yX3_isKey wsX3_isKey) := goodIn_app (goodIn_of _ (by decide +kernel)) ggX3_value_X3_isKey
set_option maxRecDepth 20000 in
theorem ggX3_value_X3_goes : GoodIn wsX3_value wsX3_goes := goodIn_r _ [17, 18, 36, 37, 38, 39, 40, 41, 42, 43, 44, 45, 46, 47, 48, 49] (by decide +kernel) (by decide +kernel)
set_option maxRecDepth 20000 in
theorem gX3_value_X3_goes : GoodIn wsX3_value (wsV RX3 135 RX3 yX3_goes wsX3_goes) := goodIn_app (goodIn_of _ (by decide +kernel)) ggX3_value_X3_goes
set_option maxRecDepth 20000 in
theorem ggX3_value_X3_lay : GoodIn wsX3_value wsX3_lay := goodIn_r _ [22, 1, 23, 24, 25, 26, 27, 6, 28, 29, 30, 31, 32, 33, 34, 35, 2, 36, 37, 38, 39, 40, 41, 42, 43, 44, 45, 46, 47, 48, 49] (by decide +kernel) (by decide +kernel)
set_option maxRecDepth 20000 in
theorem gX3_value_X3_lay : GoodIn wsX3_value (wsV RX3 149 RX3 yX3_lay wsX3_lay) := goodIn_app (goodIn_of _ (by decide +kernel)) ggX3_value_X3_lay
set_option maxRecDepth 20000 in
theorem ggX3_value_X3_in : GoodIn wsX3_value wsX3_in := goodIn_r _ [10] (by decide +kernel) (by decide +kernel)
set_option maxRecDepth 20000 in
theorem gX3_value_X3_in : GoodIn wsX3_value (va_wsS RX3 79 yX3_in wsX3_in) := goodIn_app (goodIn_of _ (by decide +kernel)) ggX3_value_X3_in
theorem dX3_value_0 : decode cX3_value 0 = .ok (.aload_n 0, 1) := by decide +kernel
theorem dX3_value_1 : decode cX3_value 1 = .ok (.aload_n 0, 1) := by decide +kernel
theorem dX3_value_2 : decode cX3_value 2 = .ok (.iload_n 1, 1) := by decide +kernel
theorem dX3_value_3 : decode cX3_value 3 = .ok (.invokevirtual 94, 3) := by decide +kernel
theorem dX3_value_6 : decode cX3_value 6 = .ok (.ifCond .eq 14, 3) := by decide +kernel
theorem dX3_value_9 : decode cX3_value 9 = .ok (.iload_n 2, 1) := by decide +kernel
theorem dX3_value_10 : decode cX3_value 10 = .ok (.invokestatic 98, 3) := by decide +kernel
theorem dX3_value_13 : decode cX3_value 13 = .ok (.ifCond .eq 7, 3) := by decide +kernel
theorem dX3_value_16 : decode cX3_value 16 = .ok (.iconst 1, 1) := by decide +kernel
theorem dX3_value_17 : decode cX3_value 17 = .ok (.goto 4, 3) := by decide +kernel
theorem dX3_value_20 : decode cX3_value 20 = .ok (.iconst 0, 1) := by decide +kernel
theorem dX3_value_21 : decode cX3_value 21 = .ok (.invokevirtual 135, 3) := by decide +kernel
theorem dX3_value_24 : decode cX3_value 24 = .ok (.ifCond .ne 5, 3) := by decide +kernel
theorem dX3_value_27 : decode cX3_value 27 = .ok (.lconst 0, 1) := by decide +kernel
theorem dX3_value_28 : decode cX3_value 28 = .ok (.lreturn, 1) := by decide +kernel
theorem dX3_value_29 : decode cX3_value 29 = .ok (.aload_n 0, 1) := by decide +kernel
theorem dX3_value_30 : decode cX3_value 30 = .ok (.iload_n 1, 1) := by decide +kernel
theorem dX3_value_31 : decode cX3_value 31 = .ok (.iload_n 2, 1) := by decide +kernel
theorem dX3_value_32 : decode cX3_value 32 = .ok (.invokevirtual 149, 3) := by decide +kernel
theorem dX3_value_35 : decode cX3_value 35 = .ok (.aload_n 0, 1) := by decide +kernel
theorem dX3_value_36 : decode cX3_value 36 = .ok (.iload_n 3, 1) := by decide +kernel
theorem dX3_value_37 : decode cX3_value 37 = .ok (.iconst 0, 1) := by decide +kernel
theorem dX3_value_38 : decode cX3_value 38 = .ok (.aload_n 0, 1) := by decide +kernel
theorem dX3_value_39 : decode cX3_value 39 = .ok (.getfield 142, 3) := by decide +kernel
theorem dX3_value_42 : decode cX3_value 42 = .ok (.iconst 1, 1) := by decide +kernel
theorem dX3_value_43 : decode cX3_value 43 = .ok (.isub, 1) := by decide +kernel
theorem dX3_value_44 : decode cX3_value 44 = .ok (.invokestatic 79, 3) := by decide +kernel
theorem dX3_value_47 : decode cX3_value 47 = .ok (.invokevirtual 135, 3) := by decide +kernel
theorem dX3_value_50 : decode cX3_value 50 = .ok (.ifCond .eq 12, 3) := by decide +kernel
theorem dX3_value_53 : decode cX3_value 53 = .ok (.aload_n 0, 1) := by decide +kernel
theorem dX3_value_54 : decode cX3_value 54 = .ok (.getfield 42, 3) := by decide +kernel
theorem dX3_value_57 : decode cX3_value 57 = .ok (.iload_n 3, 1) := by decide +kernel
theorem dX3_value_58 : decode cX3_value 58 = .ok (.laload, 1) := by decide +kernel
theorem dX3_value_59 : decode cX3_value 59 = .ok (.goto 4, 3) := by decide +kernel
theorem dX3_value_62 : decode cX3_value 62 = .ok (.lconst 0, 1) := by decide +kernel
theorem dX3_value_63 : decode cX3_value 63 = .ok (.lreturn, 1) := by decide +kernel
set_option maxRecDepth 20000 in
theorem ggX3_sum_X3_isReplica : GoodIn wsX3_sum wsX3_isReplica := goodIn_r _ [8, 9, 10, 7, 11] (by decide +kernel) (by decide +kernel)
set_option maxRecDepth 20000 in
theorem gX3_sum_X3_isReplica : GoodIn wsX3_sum (wsV RX3 94 RX3 yX3_isReplica wsX3_isReplica) := goodIn_app (goodIn_of _ (by decide +kernel)) ggX3_sum_X3_isReplica
set_option maxRecDepth 20000 in
theorem ggX3_sum_X3_isKey : GoodIn wsX3_sum wsX3_isKey := goodIn_r _ [14, 9, 10, 7, 11] (by decide +kernel) (by decide +kernel)
set_option maxRecDepth 20000 in
theorem gX3_sum_X3_isKey : GoodIn wsX3_sum (va_wsS RX3 98 yX3_isKey wsX3_isKey) := goodIn_app (goodIn_of _ (by decide +kernel)) ggX3_sum_X3_isKey
set_option maxRecDepth 20000 in
theorem ggX3_sum_X3_goes : GoodIn wsX3_sum wsX3_goes := goodIn_r _ [18, 19, 26, 27, 28, 29, 30, 31, 32, 33, 34, 35, 36, 37, 38, 39] (by decide +kernel) (by decide +kernel)
set_option maxRecDepth 20000 in
theorem gX3_sum_X3_goes : GoodIn wsX3_sum (wsV RX3 135 RX3 yX3_goes wsX3_goes) := goodIn_app (goodIn_of _ (by decide +kernel)) ggX3_sum_X3_goes
set_option maxRecDepth 20000 in
theorem ggX3_sum_X3_dot : GoodIn wsX3_sum wsX3_dot := goodIn_r _ [22] (by decide +kernel) (by decide +kernel)
set_option maxRecDepth 20000 in
theorem gX3_sum_X3_dot : GoodIn wsX3_sum (va_wsS RX3 83 yX3_dot wsX3_dot) := goodIn_app (goodIn_of _ (by decide +kernel)) ggX3_sum_X3_dot
set_option maxRecDepth 20000 in
theorem ggX3_sum_X3_isSet : GoodIn wsX3_sum wsX3_isSet := goodIn_r _ [25] (by decide +kernel) (by decide +kernel)
set_option maxRecDepth 20000 in
theorem gX3_sum_X3_isSet : GoodIn wsX3_sum (va_wsS RX3 49 yX3_isSet wsX3_isSet) := goodIn_app (goodIn_of _ (by decide +kernel)) ggX3_sum_X3_isSet
theorem dX3_sum_0 : decode cX3_sum 0 = .ok (.lconst 0, 1) := by decide +kernel
theorem dX3_sum_1 : decode cX3_sum 1 = .ok (.lstore_n 3, 1) := by decide +kernel
theorem dX3_sum_2 : decode cX3_sum 2 = .ok (.aload_n 0, 1) := by decide +kernel
theorem dX3_sum_3 : decode cX3_sum 3 = .ok (.aload_n 0, 1) := by decide +kernel
theorem dX3_sum_4 : decode cX3_sum 4 = .ok (.iload_n 1, 1) := by decide +kernel
theorem dX3_sum_5 : decode cX3_sum 5 = .ok (.invokevirtual 94, 3) := by decide +kernel
theorem dX3_sum_8 : decode cX3_sum 8 = .ok (.ifCond .eq 14, 3) := by decide +kernel
theorem dX3_sum_11 : decode cX3_sum 11 = .ok (.iload_n 2, 1) := by decide +kernel
theorem dX3_sum_12 : decode cX3_sum 12 = .ok (.invokestatic 98, 3) := by decide +kernel
theorem dX3_sum_15 : decode cX3_sum 15 = .ok (.ifCond .eq 7, 3) := by decide +kernel
theorem dX3_sum_18 : decode cX3_sum 18 = .ok (.iconst 1, 1) := by decide +kernel
theorem dX3_sum_19 : decode cX3_sum 19 = .ok (.goto 4, 3) := by decide +kernel
theorem dX3_sum_22 : decode cX3_sum 22 = .ok (.iconst 0, 1) := by decide +kernel
theorem dX3_sum_23 : decode cX3_sum 23 = .ok (.invokevirtual 135, 3) := by decide +kernel
theorem dX3_sum_26 : decode cX3_sum 26 = .ok (.ifCond .ne 5, 3) := by decide +kernel
theorem dX3_sum_29 : decode cX3_sum 29 = .ok (.lload_n 3, 1) := by decide +kernel
theorem dX3_sum_30 : decode cX3_sum 30 = .ok (.lreturn, 1) := by decide +kernel
theorem dX3_sum_31 : decode cX3_sum 31 = .ok (.iconst 0, 1) := by decide +kernel
theorem dX3_sum_32 : decode cX3_sum 32 = .ok (.istore 5, 2) := by decide +kernel
theorem dX3_sum_34 : decode cX3_sum 34 = .ok (.iload 5, 2) := by decide +kernel
theorem dX3_sum_36 : decode cX3_sum 36 = .ok (.bipush 6, 2) := by decide +kernel
theorem dX3_sum_38 : decode cX3_sum 38 = .ok (.if_icmp .ge 74, 3) := by decide +kernel
theorem dX3_sum_41 : decode cX3_sum 41 = .ok (.iconst 1, 1) := by decide +kernel
theorem dX3_sum_42 : decode cX3_sum 42 = .ok (.istore 6, 2) := by decide +kernel
theorem dX3_sum_44 : decode cX3_sum 44 = .ok (.iload 6, 2) := by decide +kernel
theorem dX3_sum_46 : decode cX3_sum 46 = .ok (.bipush 100, 2) := by decide +kernel
theorem dX3_sum_48 : decode cX3_sum 48 = .ok (.if_icmp .gt 58, 3) := by decide +kernel
theorem dX3_sum_51 : decode cX3_sum 51 = .ok (.iload 5, 2) := by decide +kernel
theorem dX3_sum_53 : decode cX3_sum 53 = .ok (.iload 6, 2) := by decide +kernel
theorem dX3_sum_55 : decode cX3_sum 55 = .ok (.invokestatic 83, 3) := by decide +kernel
theorem dX3_sum_58 : decode cX3_sum 58 = .ok (.istore 7, 2) := by decide +kernel
theorem dX3_sum_60 : decode cX3_sum 60 = .ok (.aload_n 0, 1) := by decide +kernel
theorem dX3_sum_61 : decode cX3_sum 61 = .ok (.getfield 13, 3) := by decide +kernel
theorem dX3_sum_64 : decode cX3_sum 64 = .ok (.iload_n 1, 1) := by decide +kernel
theorem dX3_sum_65 : decode cX3_sum 65 = .ok (.iload 5, 2) := by decide +kernel
theorem dX3_sum_67 : decode cX3_sum 67 = .ok (.iload 6, 2) := by decide +kernel
theorem dX3_sum_69 : decode cX3_sum 69 = .ok (.invokestatic 49, 3) := by decide +kernel
theorem dX3_sum_72 : decode cX3_sum 72 = .ok (.ifCond .eq 26, 3) := by decide +kernel
theorem dX3_sum_75 : decode cX3_sum 75 = .ok (.aload_n 0, 1) := by decide +kernel
theorem dX3_sum_76 : decode cX3_sum 76 = .ok (.getfield 33, 3) := by decide +kernel
theorem dX3_sum_79 : decode cX3_sum 79 = .ok (.iload 7, 2) := by decide +kernel
theorem dX3_sum_81 : decode cX3_sum 81 = .ok (.iaload, 1) := by decide +kernel
theorem dX3_sum_82 : decode cX3_sum 82 = .ok (.iload_n 2, 1) := by decide +kernel
theorem dX3_sum_83 : decode cX3_sum 83 = .ok (.if_icmp .ne 15, 3) := by decide +kernel
theorem dX3_sum_86 : decode cX3_sum 86 = .ok (.lload_n 3, 1) := by decide +kernel
theorem dX3_sum_87 : decode cX3_sum 87 = .ok (.aload_n 0, 1) := by decide +kernel
theorem dX3_sum_88 : decode cX3_sum 88 = .ok (.getfield 39, 3) := by decide +kernel
theorem dX3_sum_91 : decode cX3_sum 91 = .ok (.iload 7, 2) := by decide +kernel
theorem dX3_sum_93 : decode cX3_sum 93 = .ok (.laload, 1) := by decide +kernel
theorem dX3_sum_94 : decode cX3_sum 94 = .ok (.ladd, 1) := by decide +kernel
theorem dX3_sum_95 : decode cX3_sum 95 = .ok (.goto 4, 3) := by decide +kernel
theorem dX3_sum_98 : decode cX3_sum 98 = .ok (.lload_n 3, 1) := by decide +kernel
theorem dX3_sum_99 : decode cX3_sum 99 = .ok (.lstore_n 3, 1) := by decide +kernel
theorem dX3_sum_100 : decode cX3_sum 100 = .ok (.iinc 6 1, 3) := by decide +kernel
theorem dX3_sum_103 : decode cX3_sum 103 = .ok (.goto (-59), 3) := by decide +kernel
theorem dX3_sum_106 : decode cX3_sum 106 = .ok (.iinc 5 1, 3) := by decide +kernel
theorem dX3_sum_109 : decode cX3_sum 109 = .ok (.goto (-75), 3) := by decide +kernel
theorem dX3_sum_112 : decode cX3_sum 112 = .ok (.lload_n 3, 1) := by decide +kernel
theorem dX3_sum_113 : decode cX3_sum 113 = .ok (.lreturn, 1) := by decide +kernel
set_option maxRecDepth 20000 in
theorem ggX3_keys_X3_isReplica : GoodIn wsX3_keys wsX3_isReplica := goodIn_r _ [7, 8, 9, 6, 10] (by decide +kernel) (by decide +kernel)
set_option maxRecDepth 20000 in
theorem gX3_keys_X3_isReplica : GoodIn wsX3_keys (wsV RX3 94 RX3 yX3_isReplica wsX3_isReplica) := goodIn_app (goodIn_of _ (by decide +kernel)) ggX3_keys_X3_isReplica
set_option maxRecDepth 20000 in
theorem ggX3_keys_X3_goes : GoodIn wsX3_keys wsX3_goes := goodIn_r _ [14, 15, 22, 23, 24, 25, 26, 27, 28, 29, 30, 31, 32, 33, 34, 35] (by decide +kernel) (by decide +kernel)
set_option maxRecDepth 20000 in
theorem gX3_keys_X3_goes : GoodIn wsX3_keys (wsV RX3 135 RX3 yX3_goes wsX3_goes) := goodIn_app (goodIn_of _ (by decide +kernel)) ggX3_keys_X3_goes
set_option maxRecDepth 20000 in
theorem ggX3_keys_X3_isSet : GoodIn wsX3_keys wsX3_isSet := goodIn_r _ [18] (by decide +kernel) (by decide +kernel)
set_option maxRecDepth 20000 in
theorem gX3_keys_X3_isSet : GoodIn wsX3_keys (va_wsS RX3 49 yX3_isSet wsX3_isSet) := goodIn_app (goodIn_of _ (by decide +kernel)) ggX3_keys_X3_isSet
set_option maxRecDepth 20000 in
theorem ggX3_keys_X3_dot : GoodIn wsX3_keys wsX3_dot := goodIn_r _ [21] (by decide +kernel) (by decide +kernel)
set_option maxRecDepth 20000 in
theorem gX3_keys_X3_dot : GoodIn wsX3_keys (va_wsS RX3 83 yX3_dot wsX3_dot) := goodIn_app (goodIn_of _ (by decide +kernel)) ggX3_keys_X3_dot
theorem dX3_keys_0 : decode cX3_keys 0 = .ok (.iconst 0, 1) := by decide +kernel
theorem dX3_keys_1 : decode cX3_keys 1 = .ok (.istore_n 2, 1) := by decide +kernel
theorem dX3_keys_2 : decode cX3_keys 2 = .ok (.aload_n 0, 1) := by decide +kernel
theorem dX3_keys_3 : decode cX3_keys 3 = .ok (.aload_n 0, 1) := by decide +kernel
theorem dX3_keys_4 : decode cX3_keys 4 = .ok (.iload_n 1, 1) := by decide +kernel
theorem dX3_keys_5 : decode cX3_keys 5 = .ok (.invokevirtual 94, 3) := by decide +kernel
theorem dX3_keys_8 : decode cX3_keys 8 = .ok (.invokevirtual 135, 3) := by decide +kernel
theorem dX3_keys_11 : decode cX3_keys 11 = .ok (.ifCond .ne 5, 3) := by decide +kernel
theorem dX3_keys_14 : decode cX3_keys 14 = .ok (.iconst 0, 1) := by decide +kernel
theorem dX3_keys_15 : decode cX3_keys 15 = .ok (.ireturn, 1) := by decide +kernel
theorem dX3_keys_16 : decode cX3_keys 16 = .ok (.iconst 0, 1) := by decide +kernel
theorem dX3_keys_17 : decode cX3_keys 17 = .ok (.istore_n 3, 1) := by decide +kernel
theorem dX3_keys_18 : decode cX3_keys 18 = .ok (.iload_n 3, 1) := by decide +kernel
theorem dX3_keys_19 : decode cX3_keys 19 = .ok (.bipush 6, 2) := by decide +kernel
theorem dX3_keys_21 : decode cX3_keys 21 = .ok (.if_icmp .ge 59, 3) := by decide +kernel
theorem dX3_keys_24 : decode cX3_keys 24 = .ok (.iconst 1, 1) := by decide +kernel
theorem dX3_keys_25 : decode cX3_keys 25 = .ok (.istore 4, 2) := by decide +kernel
theorem dX3_keys_27 : decode cX3_keys 27 = .ok (.iload 4, 2) := by decide +kernel
theorem dX3_keys_29 : decode cX3_keys 29 = .ok (.bipush 100, 2) := by decide +kernel
theorem dX3_keys_31 : decode cX3_keys 31 = .ok (.if_icmp .gt 43, 3) := by decide +kernel
theorem dX3_keys_34 : decode cX3_keys 34 = .ok (.aload_n 0, 1) := by decide +kernel
theorem dX3_keys_35 : decode cX3_keys 35 = .ok (.getfield 13, 3) := by decide +kernel
theorem dX3_keys_38 : decode cX3_keys 38 = .ok (.iload_n 1, 1) := by decide +kernel
theorem dX3_keys_39 : decode cX3_keys 39 = .ok (.iload_n 3, 1) := by decide +kernel
theorem dX3_keys_40 : decode cX3_keys 40 = .ok (.iload 4, 2) := by decide +kernel
theorem dX3_keys_42 : decode cX3_keys 42 = .ok (.invokestatic 49, 3) := by decide +kernel
theorem dX3_keys_45 : decode cX3_keys 45 = .ok (.ifCond .eq 21, 3) := by decide +kernel
theorem dX3_keys_48 : decode cX3_keys 48 = .ok (.iload_n 2, 1) := by decide +kernel
theorem dX3_keys_49 : decode cX3_keys 49 = .ok (.iconst 1, 1) := by decide +kernel
theorem dX3_keys_50 : decode cX3_keys 50 = .ok (.aload_n 0, 1) := by decide +kernel
theorem dX3_keys_51 : decode cX3_keys 51 = .ok (.getfield 33, 3) := by decide +kernel
theorem dX3_keys_54 : decode cX3_keys 54 = .ok (.iload_n 3, 1) := by decide +kernel
theorem dX3_keys_55 : decode cX3_keys 55 = .ok (.iload 4, 2) := by decide +kernel
theorem dX3_keys_57 : decode cX3_keys 57 = .ok (.invokestatic 83, 3) := by decide +kernel
theorem dX3_keys_60 : decode cX3_keys 60 = .ok (.iaload, 1) := by decide +kernel
theorem dX3_keys_61 : decode cX3_keys 61 = .ok (.ishl, 1) := by decide +kernel
theorem dX3_keys_62 : decode cX3_keys 62 = .ok (.ior, 1) := by decide +kernel
theorem dX3_keys_63 : decode cX3_keys 63 = .ok (.goto 4, 3) := by decide +kernel
theorem dX3_keys_66 : decode cX3_keys 66 = .ok (.iload_n 2, 1) := by decide +kernel
theorem dX3_keys_67 : decode cX3_keys 67 = .ok (.istore_n 2, 1) := by decide +kernel
theorem dX3_keys_68 : decode cX3_keys 68 = .ok (.iinc 4 1, 3) := by decide +kernel
theorem dX3_keys_71 : decode cX3_keys 71 = .ok (.goto (-44), 3) := by decide +kernel
theorem dX3_keys_74 : decode cX3_keys 74 = .ok (.iinc 3 1, 3) := by decide +kernel
theorem dX3_keys_77 : decode cX3_keys 77 = .ok (.goto (-59), 3) := by decide +kernel
theorem dX3_keys_80 : decode cX3_keys 80 = .ok (.iload_n 2, 1) := by decide +kernel
theorem dX3_keys_81 : decode cX3_keys 81 = .ok (.ireturn, 1) := by decide +kernel
set_option maxRecDepth 20000 in
theorem ggX3_inTwice_X3_isReplica : GoodIn wsX3_inTwice wsX3_isReplica := goodIn_r _ [7, 8, 9, 6, 10] (by decide +kernel) (by decide +kernel)
set_option maxRecDepth 20000 in
theorem gX3_inTwice_X3_isReplica : GoodIn wsX3_inTwice (wsV RX3 94 RX3 yX3_isReplica wsX3_isReplica) := goodIn_app (goodIn_of _ (by decide +kernel)) ggX3_inTwice_X3_isReplica
set_option maxRecDepth 20000 in
theorem ggX3_inTwice_X3_isElement : GoodIn wsX3_inTwice wsX3_isElement := goodIn_r _ [13, 8, 9, 6, 10] (by decide +kernel) (by decide +kernel)
set_option maxRecDepth 20000 in
theorem gX3_inTwice_X3_isElement : GoodIn wsX3_inTwice (va_wsS RX3 120 yX3_isElement wsX3_isElement) := goodIn_app (goodIn_of _ (by decide +kernel)) ggX3_inTwice_X3_isElement
set_option maxRecDepth 20000 in
theorem ggX3_inTwice_X3_goes : GoodIn wsX3_inTwice wsX3_goes := goodIn_r _ [17, 18, 19, 20, 21, 22, 23, 24, 25, 26, 27, 28, 29, 30, 31, 32] (by decide +kernel) (by decide +kernel)
set_option maxRecDepth 20000 in
theorem gX3_inTwice_X3_goes : GoodIn wsX3_inTwice (wsV RX3 135 RX3 yX3_goes wsX3_goes) := goodIn_app (goodIn_of _ (by decide +kernel)) ggX3_inTwice_X3_goes
theorem dX3_inTwice_0 : decode cX3_inTwice 0 = .ok (.aload_n 0, 1) := by decide +kernel
theorem dX3_inTwice_1 : decode cX3_inTwice 1 = .ok (.aload_n 0, 1) := by decide +kernel
theorem dX3_inTwice_2 : decode cX3_inTwice 2 = .ok (.iload_n 1, 1) := by decide +kernel
theorem dX3_inTwice_3 : decode cX3_inTwice 3 = .ok (.invokevirtual 94, 3) := by decide +kernel
theorem dX3_inTwice_6 : decode cX3_inTwice 6 = .ok (.ifCond .eq 14, 3) := by decide +kernel
theorem dX3_inTwice_9 : decode cX3_inTwice 9 = .ok (.iload_n 2, 1) := by decide +kernel
theorem dX3_inTwice_10 : decode cX3_inTwice 10 = .ok (.invokestatic 120, 3) := by decide +kernel
theorem dX3_inTwice_13 : decode cX3_inTwice 13 = .ok (.ifCond .eq 7, 3) := by decide +kernel
theorem dX3_inTwice_16 : decode cX3_inTwice 16 = .ok (.iconst 1, 1) := by decide +kernel
theorem dX3_inTwice_17 : decode cX3_inTwice 17 = .ok (.goto 4, 3) := by decide +kernel
theorem dX3_inTwice_20 : decode cX3_inTwice 20 = .ok (.iconst 0, 1) := by decide +kernel
theorem dX3_inTwice_21 : decode cX3_inTwice 21 = .ok (.invokevirtual 135, 3) := by decide +kernel
theorem dX3_inTwice_24 : decode cX3_inTwice 24 = .ok (.ifCond .eq 25, 3) := by decide +kernel
theorem dX3_inTwice_27 : decode cX3_inTwice 27 = .ok (.aload_n 0, 1) := by decide +kernel
theorem dX3_inTwice_28 : decode cX3_inTwice 28 = .ok (.getfield 16, 3) := by decide +kernel
theorem dX3_inTwice_31 : decode cX3_inTwice 31 = .ok (.iload_n 1, 1) := by decide +kernel
theorem dX3_inTwice_32 : decode cX3_inTwice 32 = .ok (.iaload, 1) := by decide +kernel
theorem dX3_inTwice_33 : decode cX3_inTwice 33 = .ok (.aload_n 0, 1) := by decide +kernel
theorem dX3_inTwice_34 : decode cX3_inTwice 34 = .ok (.getfield 20, 3) := by decide +kernel
theorem dX3_inTwice_37 : decode cX3_inTwice 37 = .ok (.iload_n 1, 1) := by decide +kernel
theorem dX3_inTwice_38 : decode cX3_inTwice 38 = .ok (.iaload, 1) := by decide +kernel
theorem dX3_inTwice_39 : decode cX3_inTwice 39 = .ok (.iconst (-1), 1) := by decide +kernel
theorem dX3_inTwice_40 : decode cX3_inTwice 40 = .ok (.ixor, 1) := by decide +kernel
theorem dX3_inTwice_41 : decode cX3_inTwice 41 = .ok (.iand, 1) := by decide +kernel
theorem dX3_inTwice_42 : decode cX3_inTwice 42 = .ok (.iload_n 2, 1) := by decide +kernel
theorem dX3_inTwice_43 : decode cX3_inTwice 43 = .ok (.ishr, 1) := by decide +kernel
theorem dX3_inTwice_44 : decode cX3_inTwice 44 = .ok (.iconst 1, 1) := by decide +kernel
theorem dX3_inTwice_45 : decode cX3_inTwice 45 = .ok (.iand, 1) := by decide +kernel
theorem dX3_inTwice_46 : decode cX3_inTwice 46 = .ok (.goto 4, 3) := by decide +kernel
theorem dX3_inTwice_49 : decode cX3_inTwice 49 = .ok (.iconst 0, 1) := by decide +kernel
theorem dX3_inTwice_50 : decode cX3_inTwice 50 = .ok (.ireturn, 1) := by decide +kernel
set_option maxRecDepth 20000 in
theorem ggX3_inTimed_X3_isReplica : GoodIn wsX3_inTimed wsX3_isReplica := goodIn_r _ [8, 9, 10, 7, 11] (by decide +kernel) (by decide +kernel)
set_option maxRecDepth 20000 in
theorem gX3_inTimed_X3_isReplica : GoodIn wsX3_inTimed (wsV RX3 94 RX3 yX3_isReplica wsX3_isReplica) := goodIn_app (goodIn_of _ (by decide +kernel)) ggX3_inTimed_X3_isReplica
set_option maxRecDepth 20000 in
theorem ggX3_inTimed_X3_isElement : GoodIn wsX3_inTimed wsX3_isElement := goodIn_r _ [14, 9, 10, 7, 11] (by decide +kernel) (by decide +kernel)
set_option maxRecDepth 20000 in
theorem gX3_inTimed_X3_isElement : GoodIn wsX3_inTimed (va_wsS RX3 120 yX3_isElement wsX3_isElement) := goodIn_app (goodIn_of _ (by decide +kernel)) ggX3_inTimed_X3_isElement
end
section
set_option maxRecDepth 20000 in
theorem ggX3_inTimed_X3_in : GoodIn wsX3_inTimed wsX3_in := goodIn_r _ [11] (by decide +kernel) (by decide +kernel)
set_option maxRecDepth 20000 in
theorem gX3_inTimed_X3_in : GoodIn wsX3_inTimed (va_wsS RX3 79 yX3_in wsX3_in) := goodIn_app (goodIn_of _ (by decide +kernel)) ggX3_inTimed_X3_in
set_option maxRecDepth 20000 in
theorem ggX3_inTimed_X3_goes : GoodIn wsX3_inTimed wsX3_goes := goodIn_r _ [18, 19, 20, 21, 22, 23, 24, 25, 26, 27, 28, 29, 30, 31, 32, 33] (by decide +kernel) (by decide +kernel)
set_option maxRecDepth 20000 in
theorem gX3_inTimed_X3_goes : GoodIn wsX3_inTimed (wsV RX3 135 RX3 yX3_goes wsX3_goes) := goodIn_app (goodIn_of _ (by decide +kernel)) ggX3_inTimed_X3_goes
theorem dX3_inTimed_0 : decode cX3_inTimed 0 = .ok (.aload_n 0, 1) := by decide +kernel
theorem dX3_inTimed_1 : decode cX3_inTimed 1 = .ok (.aload_n 0, 1) := by decide +kernel
theorem dX3_inTimed_2 : decode cX3_inTimed 2 = .ok (.iload_n 1, 1) := by decide +kernel
theorem dX3_inTimed_3 : decode cX3_inTimed 3 = .ok (.invokevirtual 94, 3) := by decide +kernel
theorem dX3_inTimed_6 : decode cX3_inTimed 6 = .ok (.ifCond .eq 23, 3) := by decide +kernel
theorem dX3_inTimed_9 : decode cX3_inTimed 9 = .ok (.iload_n 2, 1) := by decide +kernel
theorem dX3_inTimed_10 : decode cX3_inTimed 10 = .ok (.invokestatic 120, 3) := by decide +kernel
theorem dX3_inTimed_13 : decode cX3_inTimed 13 = .ok (.ifCond .eq 16, 3) := by decide +kernel
theorem dX3_inTimed_16 : decode cX3_inTimed 16 = .ok (.iload_n 3, 1) := by decide +kernel
theorem dX3_inTimed_17 : decode cX3_inTimed 17 = .ok (.iconst 0, 1) := by decide +kernel
theorem dX3_inTimed_18 : decode cX3_inTimed 18 = .ok (.iconst 2, 1) := by decide +kernel
theorem dX3_inTimed_19 : decode cX3_inTimed 19 = .ok (.invokestatic 79, 3) := by decide +kernel
theorem dX3_inTimed_22 : decode cX3_inTimed 22 = .ok (.ifCond .eq 7, 3) := by decide +kernel
theorem dX3_inTimed_25 : decode cX3_inTimed 25 = .ok (.iconst 1, 1) := by decide +kernel
theorem dX3_inTimed_26 : decode cX3_inTimed 26 = .ok (.goto 4, 3) := by decide +kernel
theorem dX3_inTimed_29 : decode cX3_inTimed 29 = .ok (.iconst 0, 1) := by decide +kernel
theorem dX3_inTimed_30 : decode cX3_inTimed 30 = .ok (.invokevirtual 135, 3) := by decide +kernel
theorem dX3_inTimed_33 : decode cX3_inTimed 33 = .ok (.ifCond .ne 5, 3) := by decide +kernel
theorem dX3_inTimed_36 : decode cX3_inTimed 36 = .ok (.iconst 0, 1) := by decide +kernel
theorem dX3_inTimed_37 : decode cX3_inTimed 37 = .ok (.ireturn, 1) := by decide +kernel
theorem dX3_inTimed_38 : decode cX3_inTimed 38 = .ok (.bipush 32, 2) := by decide +kernel
theorem dX3_inTimed_40 : decode cX3_inTimed 40 = .ok (.iload_n 1, 1) := by decide +kernel
theorem dX3_inTimed_41 : decode cX3_inTimed 41 = .ok (.imul, 1) := by decide +kernel
theorem dX3_inTimed_42 : decode cX3_inTimed 42 = .ok (.iload_n 2, 1) := by decide +kernel
theorem dX3_inTimed_43 : decode cX3_inTimed 43 = .ok (.iadd, 1) := by decide +kernel
theorem dX3_inTimed_44 : decode cX3_inTimed 44 = .ok (.istore 4, 2) := by decide +kernel
theorem dX3_inTimed_46 : decode cX3_inTimed 46 = .ok (.iload_n 3, 1) := by decide +kernel
theorem dX3_inTimed_47 : decode cX3_inTimed 47 = .ok (.ifCond .ne 21, 3) := by decide +kernel
theorem dX3_inTimed_50 : decode cX3_inTimed 50 = .ok (.aload_n 0, 1) := by decide +kernel
theorem dX3_inTimed_51 : decode cX3_inTimed 51 = .ok (.getfield 29, 3) := by decide +kernel
theorem dX3_inTimed_54 : decode cX3_inTimed 54 = .ok (.iload 4, 2) := by decide +kernel
theorem dX3_inTimed_56 : decode cX3_inTimed 56 = .ok (.baload, 1) := by decide +kernel
theorem dX3_inTimed_57 : decode cX3_inTimed 57 = .ok (.ifCond .eq 7, 3) := by decide +kernel
theorem dX3_inTimed_60 : decode cX3_inTimed 60 = .ok (.iconst 1, 1) := by decide +kernel
theorem dX3_inTimed_61 : decode cX3_inTimed 61 = .ok (.goto 45, 3) := by decide +kernel
theorem dX3_inTimed_64 : decode cX3_inTimed 64 = .ok (.iconst 0, 1) := by decide +kernel
theorem dX3_inTimed_65 : decode cX3_inTimed 65 = .ok (.goto 41, 3) := by decide +kernel
theorem dX3_inTimed_68 : decode cX3_inTimed 68 = .ok (.iload_n 3, 1) := by decide +kernel
theorem dX3_inTimed_69 : decode cX3_inTimed 69 = .ok (.iconst 1, 1) := by decide +kernel
theorem dX3_inTimed_70 : decode cX3_inTimed 70 = .ok (.if_icmp .ne 15, 3) := by decide +kernel
theorem dX3_inTimed_73 : decode cX3_inTimed 73 = .ok (.aload_n 0, 1) := by decide +kernel
theorem dX3_inTimed_74 : decode cX3_inTimed 74 = .ok (.getfield 23, 3) := by decide +kernel
theorem dX3_inTimed_77 : decode cX3_inTimed 77 = .ok (.iload 4, 2) := by decide +kernel
theorem dX3_inTimed_79 : decode cX3_inTimed 79 = .ok (.iaload, 1) := by decide +kernel
theorem dX3_inTimed_80 : decode cX3_inTimed 80 = .ok (.iconst 1, 1) := by decide +kernel
theorem dX3_inTimed_81 : decode cX3_inTimed 81 = .ok (.isub, 1) := by decide +kernel
theorem dX3_inTimed_82 : decode cX3_inTimed 82 = .ok (.goto 24, 3) := by decide +kernel
theorem dX3_inTimed_85 : decode cX3_inTimed 85 = .ok (.aload_n 0, 1) := by decide +kernel
theorem dX3_inTimed_86 : decode cX3_inTimed 86 = .ok (.getfield 23, 3) := by decide +kernel
theorem dX3_inTimed_89 : decode cX3_inTimed 89 = .ok (.iload 4, 2) := by decide +kernel
theorem dX3_inTimed_91 : decode cX3_inTimed 91 = .ok (.iaload, 1) := by decide +kernel
theorem dX3_inTimed_92 : decode cX3_inTimed 92 = .ok (.ifCond .le 13, 3) := by decide +kernel
theorem dX3_inTimed_95 : decode cX3_inTimed 95 = .ok (.aload_n 0, 1) := by decide +kernel
theorem dX3_inTimed_96 : decode cX3_inTimed 96 = .ok (.getfield 26, 3) := by decide +kernel
theorem dX3_inTimed_99 : decode cX3_inTimed 99 = .ok (.iload 4, 2) := by decide +kernel
theorem dX3_inTimed_101 : decode cX3_inTimed 101 = .ok (.iaload, 1) := by decide +kernel
theorem dX3_inTimed_102 : decode cX3_inTimed 102 = .ok (.goto 4, 3) := by decide +kernel
theorem dX3_inTimed_105 : decode cX3_inTimed 105 = .ok (.iconst (-1), 1) := by decide +kernel
theorem dX3_inTimed_106 : decode cX3_inTimed 106 = .ok (.ireturn, 1) := by decide +kernel
set_option maxRecDepth 20000 in
theorem ggX3_countOf_X3_isSet : GoodIn wsX3_countOf wsX3_isSet := goodIn_r _ [4] (by decide +kernel) (by decide +kernel)
set_option maxRecDepth 20000 in
theorem gX3_countOf_X3_isSet : GoodIn wsX3_countOf (va_wsS RX3 49 yX3_isSet wsX3_isSet) := goodIn_app (goodIn_of _ (by decide +kernel)) ggX3_countOf_X3_isSet
theorem dX3_countOf_0 : decode cX3_countOf 0 = .ok (.iconst 0, 1) := by decide +kernel
theorem dX3_countOf_1 : decode cX3_countOf 1 = .ok (.istore 4, 2) := by decide +kernel
theorem dX3_countOf_3 : decode cX3_countOf 3 = .ok (.iconst 1, 1) := by decide +kernel
theorem dX3_countOf_4 : decode cX3_countOf 4 = .ok (.istore 5, 2) := by decide +kernel
theorem dX3_countOf_6 : decode cX3_countOf 6 = .ok (.iload 5, 2) := by decide +kernel
theorem dX3_countOf_8 : decode cX3_countOf 8 = .ok (.bipush 100, 2) := by decide +kernel
theorem dX3_countOf_10 : decode cX3_countOf 10 = .ok (.if_icmp .gt 31, 3) := by decide +kernel
theorem dX3_countOf_13 : decode cX3_countOf 13 = .ok (.aload_n 1, 1) := by decide +kernel
theorem dX3_countOf_14 : decode cX3_countOf 14 = .ok (.iload_n 2, 1) := by decide +kernel
theorem dX3_countOf_15 : decode cX3_countOf 15 = .ok (.iload_n 3, 1) := by decide +kernel
theorem dX3_countOf_16 : decode cX3_countOf 16 = .ok (.iload 5, 2) := by decide +kernel
theorem dX3_countOf_18 : decode cX3_countOf 18 = .ok (.invokestatic 49, 3) := by decide +kernel
theorem dX3_countOf_21 : decode cX3_countOf 21 = .ok (.ifCond .eq 10, 3) := by decide +kernel
theorem dX3_countOf_24 : decode cX3_countOf 24 = .ok (.iload 4, 2) := by decide +kernel
theorem dX3_countOf_26 : decode cX3_countOf 26 = .ok (.iconst 1, 1) := by decide +kernel
theorem dX3_countOf_27 : decode cX3_countOf 27 = .ok (.iadd, 1) := by decide +kernel
theorem dX3_countOf_28 : decode cX3_countOf 28 = .ok (.goto 5, 3) := by decide +kernel
theorem dX3_countOf_31 : decode cX3_countOf 31 = .ok (.iload 4, 2) := by decide +kernel
theorem dX3_countOf_33 : decode cX3_countOf 33 = .ok (.istore 4, 2) := by decide +kernel
theorem dX3_countOf_35 : decode cX3_countOf 35 = .ok (.iinc 5 1, 3) := by decide +kernel
theorem dX3_countOf_38 : decode cX3_countOf 38 = .ok (.goto (-32), 3) := by decide +kernel
theorem dX3_countOf_41 : decode cX3_countOf 41 = .ok (.iload 4, 2) := by decide +kernel
theorem dX3_countOf_43 : decode cX3_countOf 43 = .ok (.ireturn, 1) := by decide +kernel
set_option maxRecDepth 20000 in
theorem ggX3_seen_X3_isReplica : GoodIn wsX3_seen wsX3_isReplica := goodIn_r _ [6, 7, 8, 5, 9] (by decide +kernel) (by decide +kernel)
set_option maxRecDepth 20000 in
theorem gX3_seen_X3_isReplica : GoodIn wsX3_seen (wsV RX3 94 RX3 yX3_isReplica wsX3_isReplica) := goodIn_app (goodIn_of _ (by decide +kernel)) ggX3_seen_X3_isReplica
set_option maxRecDepth 20000 in
theorem ggX3_seen_X3_in : GoodIn wsX3_seen wsX3_in := goodIn_r _ [9] (by decide +kernel) (by decide +kernel)
set_option maxRecDepth 20000 in
theorem gX3_seen_X3_in : GoodIn wsX3_seen (va_wsS RX3 79 yX3_in wsX3_in) := goodIn_app (goodIn_of _ (by decide +kernel)) ggX3_seen_X3_in
set_option maxRecDepth 20000 in
theorem ggX3_seen_X3_goes : GoodIn wsX3_seen wsX3_goes := goodIn_r _ [13, 14, 26, 27, 28, 29, 30, 31, 32, 33, 34, 35, 36, 37, 38, 39] (by decide +kernel) (by decide +kernel)
set_option maxRecDepth 20000 in
theorem gX3_seen_X3_goes : GoodIn wsX3_seen (wsV RX3 135 RX3 yX3_goes wsX3_goes) := goodIn_app (goodIn_of _ (by decide +kernel)) ggX3_seen_X3_goes
set_option maxRecDepth 20000 in
theorem ggX3_seen_X3_greatest : GoodIn wsX3_seen wsX3_greatest := goodIn_r _ [18, 1, 19, 20, 5, 21, 26, 27, 28, 29, 30, 31, 32, 33, 34, 35, 36, 37, 38, 39] (by decide +kernel) (by decide +kernel)
set_option maxRecDepth 20000 in
theorem gX3_seen_X3_greatest : GoodIn wsX3_seen (wsV RX3 91 RX3 yX3_greatest wsX3_greatest) := goodIn_app (goodIn_of _ (by decide +kernel)) ggX3_seen_X3_greatest
set_option maxRecDepth 20000 in
theorem ggX3_seen_X3_countOf : GoodIn wsX3_seen wsX3_countOf := goodIn_r _ [25, 19, 20, 5, 21] (by decide +kernel) (by decide +kernel)
set_option maxRecDepth 20000 in
theorem gX3_seen_X3_countOf : GoodIn wsX3_seen (wsV RX3 152 RX3 yX3_countOf wsX3_countOf) := goodIn_app (goodIn_of _ (by decide +kernel)) ggX3_seen_X3_countOf
set_option maxRecDepth 20000 in
theorem ggX3_seen_X3_isSet : GoodIn wsX3_seen wsX3_isSet := goodIn_r _ [21] (by decide +kernel) (by decide +kernel)
set_option maxRecDepth 20000 in
theorem gX3_seen_X3_isSet : GoodIn wsX3_seen (va_wsS RX3 49 yX3_isSet wsX3_isSet) := goodIn_app (goodIn_of _ (by decide +kernel)) ggX3_seen_X3_isSet
theorem dX3_seen_0 : decode cX3_seen 0 = .ok (.aload_n 0, 1) := by decide +kernel
theorem dX3_seen_1 : decode cX3_seen 1 = .ok (.aload_n 0, 1) := by decide +kernel
theorem dX3_seen_2 : decode cX3_seen 2 = .ok (.iload_n 1, 1) := by decide +kernel
theorem dX3_seen_3 : decode cX3_seen 3 = .ok (.invokevirtual 94, 3) := by decide +kernel
theorem dX3_seen_6 : decode cX3_seen 6 = .ok (.ifCond .eq 24, 3) := by decide +kernel
theorem dX3_seen_9 : decode cX3_seen 9 = .ok (.aload_n 0, 1) := by decide +kernel
theorem dX3_seen_10 : decode cX3_seen 10 = .ok (.iload_n 2, 1) := by decide +kernel
theorem dX3_seen_11 : decode cX3_seen 11 = .ok (.invokevirtual 94, 3) := by decide +kernel
theorem dX3_seen_14 : decode cX3_seen 14 = .ok (.ifCond .eq 16, 3) := by decide +kernel
theorem dX3_seen_17 : decode cX3_seen 17 = .ok (.iload_n 3, 1) := by decide +kernel
theorem dX3_seen_18 : decode cX3_seen 18 = .ok (.iconst 0, 1) := by decide +kernel
theorem dX3_seen_19 : decode cX3_seen 19 = .ok (.iconst 2, 1) := by decide +kernel
theorem dX3_seen_20 : decode cX3_seen 20 = .ok (.invokestatic 79, 3) := by decide +kernel
theorem dX3_seen_23 : decode cX3_seen 23 = .ok (.ifCond .eq 7, 3) := by decide +kernel
theorem dX3_seen_26 : decode cX3_seen 26 = .ok (.iconst 1, 1) := by decide +kernel
theorem dX3_seen_27 : decode cX3_seen 27 = .ok (.goto 4, 3) := by decide +kernel
theorem dX3_seen_30 : decode cX3_seen 30 = .ok (.iconst 0, 1) := by decide +kernel
theorem dX3_seen_31 : decode cX3_seen 31 = .ok (.invokevirtual 135, 3) := by decide +kernel
theorem dX3_seen_34 : decode cX3_seen 34 = .ok (.ifCond .ne 5, 3) := by decide +kernel
theorem dX3_seen_37 : decode cX3_seen 37 = .ok (.iconst 0, 1) := by decide +kernel
theorem dX3_seen_38 : decode cX3_seen 38 = .ok (.ireturn, 1) := by decide +kernel
theorem dX3_seen_39 : decode cX3_seen 39 = .ok (.iload_n 3, 1) := by decide +kernel
theorem dX3_seen_40 : decode cX3_seen 40 = .ok (.iconst 2, 1) := by decide +kernel
theorem dX3_seen_41 : decode cX3_seen 41 = .ok (.if_icmp .ne 10, 3) := by decide +kernel
theorem dX3_seen_44 : decode cX3_seen 44 = .ok (.aload_n 0, 1) := by decide +kernel
theorem dX3_seen_45 : decode cX3_seen 45 = .ok (.iload_n 1, 1) := by decide +kernel
theorem dX3_seen_46 : decode cX3_seen 46 = .ok (.iload_n 2, 1) := by decide +kernel
theorem dX3_seen_47 : decode cX3_seen 47 = .ok (.invokevirtual 91, 3) := by decide +kernel
theorem dX3_seen_50 : decode cX3_seen 50 = .ok (.ireturn, 1) := by decide +kernel
theorem dX3_seen_51 : decode cX3_seen 51 = .ok (.iload_n 3, 1) := by decide +kernel
theorem dX3_seen_52 : decode cX3_seen 52 = .ok (.iconst 1, 1) := by decide +kernel
theorem dX3_seen_53 : decode cX3_seen 53 = .ok (.if_icmp .ne 14, 3) := by decide +kernel
theorem dX3_seen_56 : decode cX3_seen 56 = .ok (.aload_n 0, 1) := by decide +kernel
theorem dX3_seen_57 : decode cX3_seen 57 = .ok (.aload_n 0, 1) := by decide +kernel
theorem dX3_seen_58 : decode cX3_seen 58 = .ok (.getfield 7, 3) := by decide +kernel
theorem dX3_seen_61 : decode cX3_seen 61 = .ok (.iload_n 1, 1) := by decide +kernel
theorem dX3_seen_62 : decode cX3_seen 62 = .ok (.iload_n 2, 1) := by decide +kernel
theorem dX3_seen_63 : decode cX3_seen 63 = .ok (.invokevirtual 152, 3) := by decide +kernel
theorem dX3_seen_66 : decode cX3_seen 66 = .ok (.ireturn, 1) := by decide +kernel
theorem dX3_seen_67 : decode cX3_seen 67 = .ok (.iconst 0, 1) := by decide +kernel
theorem dX3_seen_68 : decode cX3_seen 68 = .ok (.istore 4, 2) := by decide +kernel
theorem dX3_seen_70 : decode cX3_seen 70 = .ok (.iload 4, 2) := by decide +kernel
theorem dX3_seen_72 : decode cX3_seen 72 = .ok (.bipush 100, 2) := by decide +kernel
theorem dX3_seen_74 : decode cX3_seen 74 = .ok (.if_icmp .ge 25, 3) := by decide +kernel
theorem dX3_seen_77 : decode cX3_seen 77 = .ok (.aload_n 0, 1) := by decide +kernel
theorem dX3_seen_78 : decode cX3_seen 78 = .ok (.getfield 7, 3) := by decide +kernel
theorem dX3_seen_81 : decode cX3_seen 81 = .ok (.iload_n 1, 1) := by decide +kernel
theorem dX3_seen_82 : decode cX3_seen 82 = .ok (.iload_n 2, 1) := by decide +kernel
theorem dX3_seen_83 : decode cX3_seen 83 = .ok (.iload 4, 2) := by decide +kernel
theorem dX3_seen_85 : decode cX3_seen 85 = .ok (.iconst 1, 1) := by decide +kernel
theorem dX3_seen_86 : decode cX3_seen 86 = .ok (.iadd, 1) := by decide +kernel
theorem dX3_seen_87 : decode cX3_seen 87 = .ok (.invokestatic 49, 3) := by decide +kernel
theorem dX3_seen_90 : decode cX3_seen 90 = .ok (.ifCond .eq 9, 3) := by decide +kernel
theorem dX3_seen_93 : decode cX3_seen 93 = .ok (.iinc 4 1, 3) := by decide +kernel
theorem dX3_seen_96 : decode cX3_seen 96 = .ok (.goto (-26), 3) := by decide +kernel
theorem dX3_seen_99 : decode cX3_seen 99 = .ok (.iload 4, 2) := by decide +kernel
theorem dX3_seen_101 : decode cX3_seen 101 = .ok (.ireturn, 1) := by decide +kernel
set_option maxRecDepth 20000 in
theorem ggX3_size_X3_isReplica : GoodIn wsX3_size wsX3_isReplica := goodIn_r _ [7, 8, 9, 6, 10] (by decide +kernel) (by decide +kernel)
set_option maxRecDepth 20000 in
theorem gX3_size_X3_isReplica : GoodIn wsX3_size (wsV RX3 94 RX3 yX3_isReplica wsX3_isReplica) := goodIn_app (goodIn_of _ (by decide +kernel)) ggX3_size_X3_isReplica
set_option maxRecDepth 20000 in
theorem ggX3_size_X3_isDelta : GoodIn wsX3_size wsX3_isDelta := goodIn_r _ [14, 15, 8, 9, 6, 10, 28, 29, 30, 31, 32, 33, 34, 35, 36, 37, 38, 39, 40, 41] (by decide +kernel) (by decide +kernel)
set_option maxRecDepth 20000 in
theorem gX3_size_X3_isDelta : GoodIn wsX3_size (wsV RX3 132 RX3 yX3_isDelta wsX3_isDelta) := goodIn_app (goodIn_of _ (by decide +kernel)) ggX3_size_X3_isDelta
set_option maxRecDepth 20000 in
theorem ggX3_size_X3_in : GoodIn wsX3_size wsX3_in := goodIn_r _ [10] (by decide +kernel) (by decide +kernel)
set_option maxRecDepth 20000 in
theorem gX3_size_X3_in : GoodIn wsX3_size (va_wsS RX3 79 yX3_in wsX3_in) := goodIn_app (goodIn_of _ (by decide +kernel)) ggX3_size_X3_in
set_option maxRecDepth 20000 in
theorem ggX3_size_X3_goes : GoodIn wsX3_size wsX3_goes := goodIn_r _ [19, 20, 28, 29, 30, 31, 32, 33, 34, 35, 36, 37, 38, 39, 40, 41] (by decide +kernel) (by decide +kernel)
set_option maxRecDepth 20000 in
theorem gX3_size_X3_goes : GoodIn wsX3_size (wsV RX3 135 RX3 yX3_goes wsX3_goes) := goodIn_app (goodIn_of _ (by decide +kernel)) ggX3_size_X3_goes
set_option maxRecDepth 20000 in
theorem ggX3_size_X3_countOf : GoodIn wsX3_size wsX3_countOf := goodIn_r _ [24, 25, 26, 6, 27] (by decide +kernel) (by decide +kernel)
set_option maxRecDepth 20000 in
theorem gX3_size_X3_countOf : GoodIn wsX3_size (wsV RX3 152 RX3 yX3_countOf wsX3_countOf) := goodIn_app (goodIn_of _ (by decide +kernel)) ggX3_size_X3_countOf
theorem dX3_size_0 : decode cX3_size 0 = .ok (.bipush (-2), 2) := by decide +kernel
theorem dX3_size_2 : decode cX3_size 2 = .ok (.iload_n 1, 1) := by decide +kernel
theorem dX3_size_3 : decode cX3_size 3 = .ok (.isub, 1) := by decide +kernel
theorem dX3_size_4 : decode cX3_size 4 = .ok (.istore_n 3, 1) := by decide +kernel
theorem dX3_size_5 : decode cX3_size 5 = .ok (.aload_n 0, 1) := by decide +kernel
theorem dX3_size_6 : decode cX3_size 6 = .ok (.iload_n 1, 1) := by decide +kernel
theorem dX3_size_7 : decode cX3_size 7 = .ok (.invokevirtual 94, 3) := by decide +kernel
theorem dX3_size_10 : decode cX3_size 10 = .ok (.ifCond .ne 20, 3) := by decide +kernel
theorem dX3_size_13 : decode cX3_size 13 = .ok (.iload_n 1, 1) := by decide +kernel
theorem dX3_size_14 : decode cX3_size 14 = .ok (.iconst (-1), 1) := by decide +kernel
theorem dX3_size_15 : decode cX3_size 15 = .ok (.if_icmp .ge 19, 3) := by decide +kernel
theorem dX3_size_18 : decode cX3_size 18 = .ok (.iload_n 3, 1) := by decide +kernel
theorem dX3_size_19 : decode cX3_size 19 = .ok (.ifCond .lt 15, 3) := by decide +kernel
theorem dX3_size_22 : decode cX3_size 22 = .ok (.aload_n 0, 1) := by decide +kernel
theorem dX3_size_23 : decode cX3_size 23 = .ok (.iload_n 3, 1) := by decide +kernel
theorem dX3_size_24 : decode cX3_size 24 = .ok (.invokevirtual 132, 3) := by decide +kernel
theorem dX3_size_27 : decode cX3_size 27 = .ok (.ifCond .eq 7, 3) := by decide +kernel
theorem dX3_size_30 : decode cX3_size 30 = .ok (.iconst 1, 1) := by decide +kernel
theorem dX3_size_31 : decode cX3_size 31 = .ok (.goto 4, 3) := by decide +kernel
theorem dX3_size_34 : decode cX3_size 34 = .ok (.iconst 0, 1) := by decide +kernel
theorem dX3_size_35 : decode cX3_size 35 = .ok (.istore 4, 2) := by decide +kernel
theorem dX3_size_37 : decode cX3_size 37 = .ok (.aload_n 0, 1) := by decide +kernel
theorem dX3_size_38 : decode cX3_size 38 = .ok (.iload 4, 2) := by decide +kernel
theorem dX3_size_40 : decode cX3_size 40 = .ok (.ifCond .eq 16, 3) := by decide +kernel
theorem dX3_size_43 : decode cX3_size 43 = .ok (.iload_n 2, 1) := by decide +kernel
theorem dX3_size_44 : decode cX3_size 44 = .ok (.iconst 0, 1) := by decide +kernel
theorem dX3_size_45 : decode cX3_size 45 = .ok (.iconst 1, 1) := by decide +kernel
theorem dX3_size_46 : decode cX3_size 46 = .ok (.invokestatic 79, 3) := by decide +kernel
theorem dX3_size_49 : decode cX3_size 49 = .ok (.ifCond .eq 7, 3) := by decide +kernel
theorem dX3_size_52 : decode cX3_size 52 = .ok (.iconst 1, 1) := by decide +kernel
theorem dX3_size_53 : decode cX3_size 53 = .ok (.goto 4, 3) := by decide +kernel
theorem dX3_size_56 : decode cX3_size 56 = .ok (.iconst 0, 1) := by decide +kernel
theorem dX3_size_57 : decode cX3_size 57 = .ok (.invokevirtual 135, 3) := by decide +kernel
theorem dX3_size_60 : decode cX3_size 60 = .ok (.ifCond .ne 5, 3) := by decide +kernel
theorem dX3_size_63 : decode cX3_size 63 = .ok (.iconst 0, 1) := by decide +kernel
theorem dX3_size_64 : decode cX3_size 64 = .ok (.ireturn, 1) := by decide +kernel
theorem dX3_size_65 : decode cX3_size 65 = .ok (.iload_n 1, 1) := by decide +kernel
theorem dX3_size_66 : decode cX3_size 66 = .ok (.ifCond .lt 7, 3) := by decide +kernel
theorem dX3_size_69 : decode cX3_size 69 = .ok (.iload_n 1, 1) := by decide +kernel
theorem dX3_size_70 : decode cX3_size 70 = .ok (.goto 7, 3) := by decide +kernel
theorem dX3_size_73 : decode cX3_size 73 = .ok (.bipush 6, 2) := by decide +kernel
theorem dX3_size_75 : decode cX3_size 75 = .ok (.iload_n 3, 1) := by decide +kernel
theorem dX3_size_76 : decode cX3_size 76 = .ok (.iadd, 1) := by decide +kernel
theorem dX3_size_77 : decode cX3_size 77 = .ok (.istore 5, 2) := by decide +kernel
theorem dX3_size_79 : decode cX3_size 79 = .ok (.iconst 0, 1) := by decide +kernel
theorem dX3_size_80 : decode cX3_size 80 = .ok (.istore 6, 2) := by decide +kernel
theorem dX3_size_82 : decode cX3_size 82 = .ok (.iconst 0, 1) := by decide +kernel
theorem dX3_size_83 : decode cX3_size 83 = .ok (.istore 7, 2) := by decide +kernel
theorem dX3_size_85 : decode cX3_size 85 = .ok (.iload 7, 2) := by decide +kernel
theorem dX3_size_87 : decode cX3_size 87 = .ok (.bipush 6, 2) := by decide +kernel
theorem dX3_size_89 : decode cX3_size 89 = .ok (.if_icmp .ge 37, 3) := by decide +kernel
theorem dX3_size_92 : decode cX3_size 92 = .ok (.iload 6, 2) := by decide +kernel
theorem dX3_size_94 : decode cX3_size 94 = .ok (.aload_n 0, 1) := by decide +kernel
theorem dX3_size_95 : decode cX3_size 95 = .ok (.iload_n 2, 1) := by decide +kernel
theorem dX3_size_96 : decode cX3_size 96 = .ok (.ifCond .ne 10, 3) := by decide +kernel
theorem dX3_size_99 : decode cX3_size 99 = .ok (.aload_n 0, 1) := by decide +kernel
theorem dX3_size_100 : decode cX3_size 100 = .ok (.getfield 13, 3) := by decide +kernel
theorem dX3_size_103 : decode cX3_size 103 = .ok (.goto 7, 3) := by decide +kernel
theorem dX3_size_106 : decode cX3_size 106 = .ok (.aload_n 0, 1) := by decide +kernel
theorem dX3_size_107 : decode cX3_size 107 = .ok (.getfield 7, 3) := by decide +kernel
theorem dX3_size_110 : decode cX3_size 110 = .ok (.iload 5, 2) := by decide +kernel
theorem dX3_size_112 : decode cX3_size 112 = .ok (.iload 7, 2) := by decide +kernel
theorem dX3_size_114 : decode cX3_size 114 = .ok (.invokevirtual 152, 3) := by decide +kernel
theorem dX3_size_117 : decode cX3_size 117 = .ok (.iadd, 1) := by decide +kernel
theorem dX3_size_118 : decode cX3_size 118 = .ok (.istore 6, 2) := by decide +kernel
theorem dX3_size_120 : decode cX3_size 120 = .ok (.iinc 7 1, 3) := by decide +kernel
theorem dX3_size_123 : decode cX3_size 123 = .ok (.goto (-38), 3) := by decide +kernel
theorem dX3_size_126 : decode cX3_size 126 = .ok (.iload 6, 2) := by decide +kernel
theorem dX3_size_128 : decode cX3_size 128 = .ok (.ireturn, 1) := by decide +kernel
set_option maxRecDepth 20000 in
theorem ggX3_same_X3_isReplica : GoodIn wsX3_same wsX3_isReplica := goodIn_r _ [5, 6, 7, 4, 8] (by decide +kernel) (by decide +kernel)
set_option maxRecDepth 20000 in
theorem gX3_same_X3_isReplica : GoodIn wsX3_same (wsV RX3 94 RX3 yX3_isReplica wsX3_isReplica) := goodIn_app (goodIn_of _ (by decide +kernel)) ggX3_same_X3_isReplica
set_option maxRecDepth 20000 in
theorem ggX3_same_X3_goes : GoodIn wsX3_same wsX3_goes := goodIn_r _ [12, 13, 25, 26, 27, 28, 29, 30, 31, 32, 33, 34, 35, 36, 37, 38] (by decide +kernel) (by decide +kernel)
set_option maxRecDepth 20000 in
theorem gX3_same_X3_goes : GoodIn wsX3_same (wsV RX3 135 RX3 yX3_goes wsX3_goes) := goodIn_app (goodIn_of _ (by decide +kernel)) ggX3_same_X3_goes
set_option maxRecDepth 20000 in
theorem ggX3_same_X3_isSame : GoodIn wsX3_same wsX3_isSame := goodIn_r _ [17, 18, 19, 20, 21, 22, 23, 24, 25, 26, 27, 28, 29, 30, 31, 32, 33, 34, 35, 36, 37, 38] (by decide +kernel) (by decide +kernel)
set_option maxRecDepth 20000 in
theorem gX3_same_X3_isSame : GoodIn wsX3_same (wsV RX3 69 RX3 yX3_isSame wsX3_isSame) := goodIn_app (goodIn_of _ (by decide +kernel)) ggX3_same_X3_isSame
theorem dX3_same_0 : decode cX3_same 0 = .ok (.aload_n 0, 1) := by decide +kernel
theorem dX3_same_1 : decode cX3_same 1 = .ok (.aload_n 0, 1) := by decide +kernel
theorem dX3_same_2 : decode cX3_same 2 = .ok (.iload_n 1, 1) := by decide +kernel
theorem dX3_same_3 : decode cX3_same 3 = .ok (.invokevirtual 94, 3) := by decide +kernel
theorem dX3_same_6 : decode cX3_same 6 = .ok (.ifCond .eq 15, 3) := by decide +kernel
theorem dX3_same_9 : decode cX3_same 9 = .ok (.aload_n 0, 1) := by decide +kernel
theorem dX3_same_10 : decode cX3_same 10 = .ok (.iload_n 2, 1) := by decide +kernel
theorem dX3_same_11 : decode cX3_same 11 = .ok (.invokevirtual 94, 3) := by decide +kernel
theorem dX3_same_14 : decode cX3_same 14 = .ok (.ifCond .eq 7, 3) := by decide +kernel
theorem dX3_same_17 : decode cX3_same 17 = .ok (.iconst 1, 1) := by decide +kernel
theorem dX3_same_18 : decode cX3_same 18 = .ok (.goto 4, 3) := by decide +kernel
theorem dX3_same_21 : decode cX3_same 21 = .ok (.iconst 0, 1) := by decide +kernel
theorem dX3_same_22 : decode cX3_same 22 = .ok (.invokevirtual 135, 3) := by decide +kernel
theorem dX3_same_25 : decode cX3_same 25 = .ok (.ifCond .eq 16, 3) := by decide +kernel
theorem dX3_same_28 : decode cX3_same 28 = .ok (.aload_n 0, 1) := by decide +kernel
theorem dX3_same_29 : decode cX3_same 29 = .ok (.iload_n 1, 1) := by decide +kernel
theorem dX3_same_30 : decode cX3_same 30 = .ok (.iload_n 2, 1) := by decide +kernel
theorem dX3_same_31 : decode cX3_same 31 = .ok (.invokevirtual 69, 3) := by decide +kernel
theorem dX3_same_34 : decode cX3_same 34 = .ok (.ifCond .eq 7, 3) := by decide +kernel
theorem dX3_same_37 : decode cX3_same 37 = .ok (.iconst 1, 1) := by decide +kernel
theorem dX3_same_38 : decode cX3_same 38 = .ok (.goto 4, 3) := by decide +kernel
theorem dX3_same_41 : decode cX3_same 41 = .ok (.iconst 0, 1) := by decide +kernel
theorem dX3_same_42 : decode cX3_same 42 = .ok (.ireturn, 1) := by decide +kernel
set_option maxRecDepth 20000 in
theorem ggX3_below_X3_isReplica : GoodIn wsX3_below wsX3_isReplica := goodIn_r _ [5, 6, 7, 4, 8] (by decide +kernel) (by decide +kernel)
set_option maxRecDepth 20000 in
theorem gX3_below_X3_isReplica : GoodIn wsX3_below (wsV RX3 94 RX3 yX3_isReplica wsX3_isReplica) := goodIn_app (goodIn_of _ (by decide +kernel)) ggX3_below_X3_isReplica
set_option maxRecDepth 20000 in
theorem ggX3_below_X3_goes : GoodIn wsX3_below wsX3_goes := goodIn_r _ [12, 13, 42, 43, 44, 45, 46, 47, 48, 49, 50, 51, 52, 53, 54, 55] (by decide +kernel) (by decide +kernel)
set_option maxRecDepth 20000 in
theorem gX3_below_X3_goes : GoodIn wsX3_below (wsV RX3 135 RX3 yX3_goes wsX3_goes) := goodIn_app (goodIn_of _ (by decide +kernel)) ggX3_below_X3_goes
set_option maxRecDepth 20000 in
theorem ggX3_below_X3_copy : GoodIn wsX3_below wsX3_copy := goodIn_r _ [17, 18, 19, 20, 21, 22, 23, 24, 4, 25, 26, 27, 28, 42, 43, 44, 45, 46, 47, 48, 49, 50, 51, 52, 53, 54, 55] (by decide +kernel) (by decide +kernel)
set_option maxRecDepth 20000 in
theorem gX3_below_X3_copy : GoodIn wsX3_below (wsV RX3 63 RX3 yX3_copy wsX3_copy) := goodIn_app (goodIn_of _ (by decide +kernel)) ggX3_below_X3_copy
set_option maxRecDepth 20000 in
theorem ggX3_below_X3_joinTo : GoodIn wsX3_below wsX3_joinTo := goodIn_r _ [32, 19, 18, 33, 20, 21, 34, 35, 36, 4, 37, 26, 27, 28, 22, 23, 24, 25, 42, 43, 44, 45, 46, 47, 48, 49, 50, 51, 52, 53, 54, 55] (by decide +kernel) (by decide +kernel)
set_option maxRecDepth 20000 in
theorem gX3_below_X3_joinTo : GoodIn wsX3_below (wsV RX3 66 RX3 yX3_joinTo wsX3_joinTo) := goodIn_app (goodIn_of _ (by decide +kernel)) ggX3_below_X3_joinTo
set_option maxRecDepth 20000 in
theorem ggX3_below_X3_isSame : GoodIn wsX3_below wsX3_isSame := goodIn_r _ [41, 20, 21, 18, 19, 26, 27, 28, 42, 43, 44, 45, 46, 47, 48, 49, 50, 51, 52, 53, 54, 55] (by decide +kernel) (by decide +kernel)
set_option maxRecDepth 20000 in
theorem gX3_below_X3_isSame : GoodIn wsX3_below (wsV RX3 69 RX3 yX3_isSame wsX3_isSame) := goodIn_app (goodIn_of _ (by decide +kernel)) ggX3_below_X3_isSame
theorem dX3_below_0 : decode cX3_below 0 = .ok (.aload_n 0, 1) := by decide +kernel
theorem dX3_below_1 : decode cX3_below 1 = .ok (.aload_n 0, 1) := by decide +kernel
theorem dX3_below_2 : decode cX3_below 2 = .ok (.iload_n 1, 1) := by decide +kernel
theorem dX3_below_3 : decode cX3_below 3 = .ok (.invokevirtual 94, 3) := by decide +kernel
theorem dX3_below_6 : decode cX3_below 6 = .ok (.ifCond .eq 15, 3) := by decide +kernel
theorem dX3_below_9 : decode cX3_below 9 = .ok (.aload_n 0, 1) := by decide +kernel
theorem dX3_below_10 : decode cX3_below 10 = .ok (.iload_n 2, 1) := by decide +kernel
theorem dX3_below_11 : decode cX3_below 11 = .ok (.invokevirtual 94, 3) := by decide +kernel
theorem dX3_below_14 : decode cX3_below 14 = .ok (.ifCond .eq 7, 3) := by decide +kernel
theorem dX3_below_17 : decode cX3_below 17 = .ok (.iconst 1, 1) := by decide +kernel
theorem dX3_below_18 : decode cX3_below 18 = .ok (.goto 4, 3) := by decide +kernel
theorem dX3_below_21 : decode cX3_below 21 = .ok (.iconst 0, 1) := by decide +kernel
theorem dX3_below_22 : decode cX3_below 22 = .ok (.invokevirtual 135, 3) := by decide +kernel
theorem dX3_below_25 : decode cX3_below 25 = .ok (.ifCond .ne 5, 3) := by decide +kernel
theorem dX3_below_28 : decode cX3_below 28 = .ok (.iconst 0, 1) := by decide +kernel
theorem dX3_below_29 : decode cX3_below 29 = .ok (.ireturn, 1) := by decide +kernel
theorem dX3_below_30 : decode cX3_below 30 = .ok (.aload_n 0, 1) := by decide +kernel
theorem dX3_below_31 : decode cX3_below 31 = .ok (.iload_n 2, 1) := by decide +kernel
theorem dX3_below_32 : decode cX3_below 32 = .ok (.sipush 256, 3) := by decide +kernel
theorem dX3_below_35 : decode cX3_below 35 = .ok (.invokevirtual 63, 3) := by decide +kernel
theorem dX3_below_38 : decode cX3_below 38 = .ok (.aload_n 0, 1) := by decide +kernel
theorem dX3_below_39 : decode cX3_below 39 = .ok (.iload_n 1, 1) := by decide +kernel
theorem dX3_below_40 : decode cX3_below 40 = .ok (.sipush 256, 3) := by decide +kernel
theorem dX3_below_43 : decode cX3_below 43 = .ok (.invokevirtual 66, 3) := by decide +kernel
theorem dX3_below_46 : decode cX3_below 46 = .ok (.aload_n 0, 1) := by decide +kernel
theorem dX3_below_47 : decode cX3_below 47 = .ok (.iload_n 2, 1) := by decide +kernel
theorem dX3_below_48 : decode cX3_below 48 = .ok (.sipush 256, 3) := by decide +kernel
theorem dX3_below_51 : decode cX3_below 51 = .ok (.invokevirtual 69, 3) := by decide +kernel
theorem dX3_below_54 : decode cX3_below 54 = .ok (.ifCond .eq 7, 3) := by decide +kernel
theorem dX3_below_57 : decode cX3_below 57 = .ok (.iconst 1, 1) := by decide +kernel
theorem dX3_below_58 : decode cX3_below 58 = .ok (.goto 4, 3) := by decide +kernel
theorem dX3_below_61 : decode cX3_below 61 = .ok (.iconst 0, 1) := by decide +kernel
theorem dX3_below_62 : decode cX3_below 62 = .ok (.ireturn, 1) := by decide +kernel
theorem dJ13_bitCount_95d88_0 : decode cJ13_bitCount_95d88 0 = .ok (.lload_n 0, 1) := by decide +kernel
theorem dJ13_bitCount_95d88_1 : decode cJ13_bitCount_95d88 1 = .ok (.lload_n 0, 1) := by decide +kernel
theorem dJ13_bitCount_95d88_2 : decode cJ13_bitCount_95d88 2 = .ok (.iconst 1, 1) := by decide +kernel
theorem dJ13_bitCount_95d88_3 : decode cJ13_bitCount_95d88 3 = .ok (.lushr, 1) := by decide +kernel
theorem dJ13_bitCount_95d88_4 : decode cJ13_bitCount_95d88 4 = .ok (.ldc2_w 314, 3) := by decide +kernel
theorem dJ13_bitCount_95d88_7 : decode cJ13_bitCount_95d88 7 = .ok (.land, 1) := by decide +kernel
theorem dJ13_bitCount_95d88_8 : decode cJ13_bitCount_95d88 8 = .ok (.lsub, 1) := by decide +kernel
theorem dJ13_bitCount_95d88_9 : decode cJ13_bitCount_95d88 9 = .ok (.lstore_n 0, 1) := by decide +kernel
theorem dJ13_bitCount_95d88_10 : decode cJ13_bitCount_95d88 10 = .ok (.lload_n 0, 1) := by decide +kernel
theorem dJ13_bitCount_95d88_11 : decode cJ13_bitCount_95d88 11 = .ok (.ldc2_w 316, 3) := by decide +kernel
theorem dJ13_bitCount_95d88_14 : decode cJ13_bitCount_95d88 14 = .ok (.land, 1) := by decide +kernel
theorem dJ13_bitCount_95d88_15 : decode cJ13_bitCount_95d88 15 = .ok (.lload_n 0, 1) := by decide +kernel
theorem dJ13_bitCount_95d88_16 : decode cJ13_bitCount_95d88 16 = .ok (.iconst 2, 1) := by decide +kernel
theorem dJ13_bitCount_95d88_17 : decode cJ13_bitCount_95d88 17 = .ok (.lushr, 1) := by decide +kernel
theorem dJ13_bitCount_95d88_18 : decode cJ13_bitCount_95d88 18 = .ok (.ldc2_w 316, 3) := by decide +kernel
theorem dJ13_bitCount_95d88_21 : decode cJ13_bitCount_95d88 21 = .ok (.land, 1) := by decide +kernel
theorem dJ13_bitCount_95d88_22 : decode cJ13_bitCount_95d88 22 = .ok (.ladd, 1) := by decide +kernel
theorem dJ13_bitCount_95d88_23 : decode cJ13_bitCount_95d88 23 = .ok (.lstore_n 0, 1) := by decide +kernel
theorem dJ13_bitCount_95d88_24 : decode cJ13_bitCount_95d88 24 = .ok (.lload_n 0, 1) := by decide +kernel
theorem dJ13_bitCount_95d88_25 : decode cJ13_bitCount_95d88 25 = .ok (.lload_n 0, 1) := by decide +kernel
theorem dJ13_bitCount_95d88_26 : decode cJ13_bitCount_95d88 26 = .ok (.iconst 4, 1) := by decide +kernel
theorem dJ13_bitCount_95d88_27 : decode cJ13_bitCount_95d88 27 = .ok (.lushr, 1) := by decide +kernel
theorem dJ13_bitCount_95d88_28 : decode cJ13_bitCount_95d88 28 = .ok (.ladd, 1) := by decide +kernel
theorem dJ13_bitCount_95d88_29 : decode cJ13_bitCount_95d88 29 = .ok (.ldc2_w 318, 3) := by decide +kernel
theorem dJ13_bitCount_95d88_32 : decode cJ13_bitCount_95d88 32 = .ok (.land, 1) := by decide +kernel
theorem dJ13_bitCount_95d88_33 : decode cJ13_bitCount_95d88 33 = .ok (.lstore_n 0, 1) := by decide +kernel
theorem dJ13_bitCount_95d88_34 : decode cJ13_bitCount_95d88 34 = .ok (.lload_n 0, 1) := by decide +kernel
theorem dJ13_bitCount_95d88_35 : decode cJ13_bitCount_95d88 35 = .ok (.lload_n 0, 1) := by decide +kernel
theorem dJ13_bitCount_95d88_36 : decode cJ13_bitCount_95d88 36 = .ok (.bipush 8, 2) := by decide +kernel
theorem dJ13_bitCount_95d88_38 : decode cJ13_bitCount_95d88 38 = .ok (.lushr, 1) := by decide +kernel
theorem dJ13_bitCount_95d88_39 : decode cJ13_bitCount_95d88 39 = .ok (.ladd, 1) := by decide +kernel
theorem dJ13_bitCount_95d88_40 : decode cJ13_bitCount_95d88 40 = .ok (.lstore_n 0, 1) := by decide +kernel
theorem dJ13_bitCount_95d88_41 : decode cJ13_bitCount_95d88 41 = .ok (.lload_n 0, 1) := by decide +kernel
theorem dJ13_bitCount_95d88_42 : decode cJ13_bitCount_95d88 42 = .ok (.lload_n 0, 1) := by decide +kernel
theorem dJ13_bitCount_95d88_43 : decode cJ13_bitCount_95d88 43 = .ok (.bipush 16, 2) := by decide +kernel
theorem dJ13_bitCount_95d88_45 : decode cJ13_bitCount_95d88 45 = .ok (.lushr, 1) := by decide +kernel
theorem dJ13_bitCount_95d88_46 : decode cJ13_bitCount_95d88 46 = .ok (.ladd, 1) := by decide +kernel
theorem dJ13_bitCount_95d88_47 : decode cJ13_bitCount_95d88 47 = .ok (.lstore_n 0, 1) := by decide +kernel
theorem dJ13_bitCount_95d88_48 : decode cJ13_bitCount_95d88 48 = .ok (.lload_n 0, 1) := by decide +kernel
theorem dJ13_bitCount_95d88_49 : decode cJ13_bitCount_95d88 49 = .ok (.lload_n 0, 1) := by decide +kernel
theorem dJ13_bitCount_95d88_50 : decode cJ13_bitCount_95d88 50 = .ok (.bipush 32, 2) := by decide +kernel
theorem dJ13_bitCount_95d88_52 : decode cJ13_bitCount_95d88 52 = .ok (.lushr, 1) := by decide +kernel
theorem dJ13_bitCount_95d88_53 : decode cJ13_bitCount_95d88 53 = .ok (.ladd, 1) := by decide +kernel
theorem dJ13_bitCount_95d88_54 : decode cJ13_bitCount_95d88 54 = .ok (.lstore_n 0, 1) := by decide +kernel
theorem dJ13_bitCount_95d88_55 : decode cJ13_bitCount_95d88 55 = .ok (.lload_n 0, 1) := by decide +kernel
theorem dJ13_bitCount_95d88_56 : decode cJ13_bitCount_95d88 56 = .ok (.l2i, 1) := by decide +kernel
theorem dJ13_bitCount_95d88_57 : decode cJ13_bitCount_95d88 57 = .ok (.bipush 127, 2) := by decide +kernel
theorem dJ13_bitCount_95d88_59 : decode cJ13_bitCount_95d88 59 = .ok (.iand, 1) := by decide +kernel
theorem dJ13_bitCount_95d88_60 : decode cJ13_bitCount_95d88 60 = .ok (.ireturn, 1) := by decide +kernel
end
section
abbrev vwCl : List vw_C := [(RX0, TX0, 7), (RX1, TX1, 5), (RX2, TX2, 6), (RX3, TX3, 14)]
end
section
abbrev gG : Type := va_G × ClassId × ClassId × ClassId × ClassId
abbrev gS : Type := List Nat × (Nat → Nat) × (Nat → Nat) × (Nat → Nat → Int32) × (Nat → Nat → Int64) × (Nat → Nat → Option Nat) × (Nat → Nat → Int32) × (Nat → Nat → Option Nat)
abbrev g_tys (G : gG) : List (ClassId × FieldType) := [(G.2.1, .int), (G.2.2.1, .long), (G.2.2.2.1, .boolean), (G.2.2.2.2, .object "DotStores$State")]
def g_K (G : gG) (U : State) : Prop := va_K G.1 vwCl (g_tys G) U
theorem g_K.moved {G : gG} {u U : State} (hvm : u.vm.Alike U.vm) (h : g_K G u) : g_K G U := va_K.moved hvm h
/-- a table of rows, one place changed -/
def g_up {α : Type} (f : Nat → Nat → α) (a j : Nat) (x : α) : Nat → Nat → α := fun b i => if b = a ∧ i = j then x else f b i
theorem g_up_at {α : Type} (f : Nat → Nat → α) (a j : Nat) (x : α) : g_up f a j x a j = x := by simp [g_up]
theorem g_up_b {α : Type} (f : Nat → Nat → α) {a b : Nat} (j i : Nat) (x : α) (h : b ≠ a) : g_up f a j x b i = f b i := by simp [g_up, h]
theorem g_up_i {α : Type} (f : Nat → Nat → α) (a b : Nat) {j i : Nat} (x : α) (h : i ≠ j) : g_up f a j x b i = f b i := by simp [g_up, h]
theorem g_up_same {α : Type} (f : Nat → Nat → α) (a j : Nat) (x : α) : g_up f a j x a = fun i => if i = j then x else f a i := by
  funext i
  simp [g_up]
theorem g_up_other {α : Type} (f : Nat → Nat → α) {a b : Nat} (j : Nat) (x : α) (h : ¬ b = a) : g_up f a j x b = f b := by
  funext i
  simp [g_up, h]
theorem g_up_row {α : Type} (f : Nat → Nat → α) (a j : Nat) (x : α) : va_up f a (fun i => if i = j then x else f a i) = g_up f a j x := by
  funext b i
  by_cases hb : b = a
  · subst hb; by_cases hi : i = j <;> simp [va_up, g_up, hi]
  · simp [va_up, g_up, hb]
def g_F (G : gG) (K n : Nat → Nat) (rI : Nat → Nat → Int32) (rJ : Nat → Nat → Int64) (rQ : Nat → Nat → Option Nat) (fI : Nat → Nat → Int32) (fR : Nat → Nat → Option Nat) : Nat → va_E := fun a => if K a = 0 then .inr (0, [va_rf (fR a 0), va_rf (fR a 1), va_rf (fR a 2), va_rf (fR a 3), va_rf (fR a 4), va_rf (fR a 5), .int (fI a 6)]) else if K a = 1 then .inr (1, [va_rf (fR a 0), va_rf (fR a 1), va_rf (fR a 2), .int (fI a 3), .int (fI a 4)]) else if K a = 2 then .inr (2, [va_rf (fR a 0), va_rf (fR a 1), va_rf (fR a 2), va_rf (fR a 3), va_rf (fR a 4), .int (fI a 5)]) else if K a = 3 then .inr (3, [.int (fI a 0), .int (fI a 1), va_rf (fR a 2), va_rf (fR a 3), va_rf (fR a 4), va_rf (fR a 5), va_rf (fR a 6), va_rf (fR a 7), va_rf (fR a 8), va_rf (fR a 9), va_rf (fR a 10), va_rf (fR a 11), .int (fI a 12), va_rf (fR a 13)]) else if K a = 4 then .inl (G.2.1, n a, .inl (rI a)) else if K a = 5 then .inl (G.2.2.1, n a, .inr (.inl (rJ a))) else if K a = 6 then .inl (G.2.2.2.1, n a, .inl (rI a)) else .inl (G.2.2.2.2, n a, .inr (.inr (.inr (.inr (rQ a)))))
abbrev g_W (G : gG) (τ : gS) : va_W := va_pl τ.1 (g_F G τ.2.1 τ.2.2.1 τ.2.2.2.1 τ.2.2.2.2.1 τ.2.2.2.2.2.1 τ.2.2.2.2.2.2.1 τ.2.2.2.2.2.2.2)
/-- what may change: every cell from base on -/
abbrev g_A (base : Nat) : Nat → Prop := fun q => base ≤ q
def g_at (G : gG) (base : Nat) (τ : gS) (t : State) : Prop := va_P G.1 vwCl (g_W G τ) t.heap ∧ va_D (g_A base) (g_W G τ)
def gw (G : gG) (base : Nat) (H0 : Heap) (τ : gS) (H : Heap) (locs : List Loc) : Prop := va_P G.1 vwCl (g_W G τ) H ∧ va_D (g_A base) (g_W G τ) ∧ va_S (g_A base) H0 H locs ∧ base ≤ H0.size
/-- a method's start -/
def g_Pr (G : gG) (base : Nat) (τ : gS) (U : State) : Prop := g_at G base τ U ∧ base ≤ U.heap.size ∧ g_K G U
theorem g_Pr.gw {G : gG} {base : Nat} {τ : gS} {s : State} (h : g_Pr G base τ s) : gw G base s.heap τ s.heap [] := ⟨h.1.1, h.1.2, va_S.rf, h.2.1⟩
theorem gw.at {G : gG} {base : Nat} {H0 H : Heap} {τ : gS} {locs : List Loc} {t : State} (h : gw G base H0 τ H locs) (ht : t.heap = H) : g_at G base τ t := ⟨by rw [ht]; exact h.1, h.2.1⟩
theorem gw.fresh {G : gG} {base : Nat} {H0 H : Heap} {τ : gS} {locs : List Loc} (h : gw G base H0 τ H locs) {a : Nat} (ha : a ∈ τ.1) : a < H.size := va_pl_lt (X := []) h.1 ha
theorem gw.base {G : gG} {base : Nat} {H0 H : Heap} {τ : gS} {locs : List Loc} (h : gw G base H0 τ H locs) {a : Nat} (ha : a ∈ τ.1) : base ≤ a := by
  obtain ⟨k, hk⟩ := va_pl_get (X := []) (f := g_F G τ.2.1 τ.2.2.1 τ.2.2.2.1 τ.2.2.2.2.1 τ.2.2.2.2.2.1 τ.2.2.2.2.2.2.1 τ.2.2.2.2.2.2.2) ha
  exact h.2.1.2 k _ hk
theorem g_blind {G : gG} {base : Nat} {τ : gS} {av : List Value} : FrameBlind (va_Pc av (g_Pr G base τ)) := fun a U g mk q => by
  obtain ⟨q0, q1, q2, q3⟩ := q
  exact ⟨q0, q1, q2, g_K.moved (u := U) (U := U.calling g mk a) (Vm.Alike.refl U.vm) q3⟩
theorem g_k0 (G : gG) {K n : Nat → Nat} {rI : Nat → Nat → Int32} {rJ : Nat → Nat → Int64} {rQ : Nat → Nat → Option Nat} {fI : Nat → Nat → Int32} {fR : Nat → Nat → Option Nat} {a : Nat} (h : K a = 0) : g_F G K n rI rJ rQ fI fR a = .inr (0, [va_rf (fR a 0), va_rf (fR a 1), va_rf (fR a 2), va_rf (fR a 3), va_rf (fR a 4), va_rf (fR a 5), .int (fI a 6)]) := by simp [g_F, h]
theorem g_k1 (G : gG) {K n : Nat → Nat} {rI : Nat → Nat → Int32} {rJ : Nat → Nat → Int64} {rQ : Nat → Nat → Option Nat} {fI : Nat → Nat → Int32} {fR : Nat → Nat → Option Nat} {a : Nat} (h : K a = 1) : g_F G K n rI rJ rQ fI fR a = .inr (1, [va_rf (fR a 0), va_rf (fR a 1), va_rf (fR a 2), .int (fI a 3), .int (fI a 4)]) := by simp [g_F, h]
theorem g_k2 (G : gG) {K n : Nat → Nat} {rI : Nat → Nat → Int32} {rJ : Nat → Nat → Int64} {rQ : Nat → Nat → Option Nat} {fI : Nat → Nat → Int32} {fR : Nat → Nat → Option Nat} {a : Nat} (h : K a = 2) : g_F G K n rI rJ rQ fI fR a = .inr (2, [va_rf (fR a 0), va_rf (fR a 1), va_rf (fR a 2), va_rf (fR a 3), va_rf (fR a 4), .int (fI a 5)]) := by simp [g_F, h]
theorem g_k3 (G : gG) {K n : Nat → Nat} {rI : Nat → Nat → Int32} {rJ : Nat → Nat → Int64} {rQ : Nat → Nat → Option Nat} {fI : Nat → Nat → Int32} {fR : Nat → Nat → Option Nat} {a : Nat} (h : K a = 3) : g_F G K n rI rJ rQ fI fR a = .inr (3, [.int (fI a 0), .int (fI a 1), va_rf (fR a 2), va_rf (fR a 3), va_rf (fR a 4), va_rf (fR a 5), va_rf (fR a 6), va_rf (fR a 7), va_rf (fR a 8), va_rf (fR a 9), va_rf (fR a 10), va_rf (fR a 11), .int (fI a 12), va_rf (fR a 13)]) := by simp [g_F, h]
theorem g_k4 (G : gG) {K n : Nat → Nat} {rI : Nat → Nat → Int32} {rJ : Nat → Nat → Int64} {rQ : Nat → Nat → Option Nat} {fI : Nat → Nat → Int32} {fR : Nat → Nat → Option Nat} {a : Nat} (h : K a = 4) : g_F G K n rI rJ rQ fI fR a = .inl (G.2.1, n a, .inl (rI a)) := by simp [g_F, h]
theorem g_k5 (G : gG) {K n : Nat → Nat} {rI : Nat → Nat → Int32} {rJ : Nat → Nat → Int64} {rQ : Nat → Nat → Option Nat} {fI : Nat → Nat → Int32} {fR : Nat → Nat → Option Nat} {a : Nat} (h : K a = 5) : g_F G K n rI rJ rQ fI fR a = .inl (G.2.2.1, n a, .inr (.inl (rJ a))) := by simp [g_F, h]
theorem g_k6 (G : gG) {K n : Nat → Nat} {rI : Nat → Nat → Int32} {rJ : Nat → Nat → Int64} {rQ : Nat → Nat → Option Nat} {fI : Nat → Nat → Int32} {fR : Nat → Nat → Option Nat} {a : Nat} (h : K a = 6) : g_F G K n rI rJ rQ fI fR a = .inl (G.2.2.2.1, n a, .inl (rI a)) := by simp [g_F, h]
theorem g_k7 (G : gG) {K n : Nat → Nat} {rI : Nat → Nat → Int32} {rJ : Nat → Nat → Int64} {rQ : Nat → Nat → Option Nat} {fI : Nat → Nat → Int32} {fR : Nat → Nat → Option Nat} {a : Nat} (h : K a = 7) : g_F G K n rI rJ rQ fI fR a = .inl (G.2.2.2.2, n a, .inr (.inr (.inr (.inr (rQ a))))) := by simp [g_F, h]
theorem g_u4 (G : gG) {K n : Nat → Nat} {rI : Nat → Nat → Int32} {rJ : Nat → Nat → Int64} {rQ : Nat → Nat → Option Nat} {fI : Nat → Nat → Int32} {fR : Nat → Nat → Option Nat} {a : Nat} (h : K a = 4) (j : Nat) (x : Int32) (b : Nat) : va_up (g_F G K n rI rJ rQ fI fR) a (.inl (G.2.1, n a, .inl (fun i => if i = j then x else rI a i))) b = g_F G K n (g_up rI a j x) rJ rQ fI fR b := by
  by_cases hb : b = a
  · subst hb; simp [g_F, h, va_up, g_up_same]
  · simp [g_F, va_up, g_up_other _ _ _ hb, hb]
theorem g_u5 (G : gG) {K n : Nat → Nat} {rI : Nat → Nat → Int32} {rJ : Nat → Nat → Int64} {rQ : Nat → Nat → Option Nat} {fI : Nat → Nat → Int32} {fR : Nat → Nat → Option Nat} {a : Nat} (h : K a = 5) (j : Nat) (x : Int64) (b : Nat) : va_up (g_F G K n rI rJ rQ fI fR) a (.inl (G.2.2.1, n a, .inr (.inl (fun i => if i = j then x else rJ a i)))) b = g_F G K n rI (g_up rJ a j x) rQ fI fR b := by
  by_cases hb : b = a
  · subst hb; simp [g_F, h, va_up, g_up_same]
  · simp [g_F, va_up, g_up_other _ _ _ hb, hb]
theorem g_u6 (G : gG) {K n : Nat → Nat} {rI : Nat → Nat → Int32} {rJ : Nat → Nat → Int64} {rQ : Nat → Nat → Option Nat} {fI : Nat → Nat → Int32} {fR : Nat → Nat → Option Nat} {a : Nat} (h : K a = 6) (j : Nat) (x : Int32) (b : Nat) : va_up (g_F G K n rI rJ rQ fI fR) a (.inl (G.2.2.2.1, n a, .inl (fun i => if i = j then x else rI a i))) b = g_F G K n (g_up rI a j x) rJ rQ fI fR b := by
  by_cases hb : b = a
  · subst hb; simp [g_F, h, va_up, g_up_same]
  · simp [g_F, va_up, g_up_other _ _ _ hb, hb]
theorem g_u7 (G : gG) {K n : Nat → Nat} {rI : Nat → Nat → Int32} {rJ : Nat → Nat → Int64} {rQ : Nat → Nat → Option Nat} {fI : Nat → Nat → Int32} {fR : Nat → Nat → Option Nat} {a : Nat} (h : K a = 7) (j : Nat) (x : Option Nat) (b : Nat) : va_up (g_F G K n rI rJ rQ fI fR) a (.inl (G.2.2.2.2, n a, .inr (.inr (.inr (.inr (fun i => if i = j then x else rQ a i)))))) b = g_F G K n rI rJ (g_up rQ a j x) fI fR b := by
  by_cases hb : b = a
  · subst hb; simp [g_F, h, va_up, g_up_same]
  · simp [g_F, va_up, g_up_other _ _ _ hb, hb]
theorem g_u_Dots_replica (G : gG) {K n : Nat → Nat} {rI : Nat → Nat → Int32} {rJ : Nat → Nat → Int64} {rQ : Nat → Nat → Option Nat} {fI : Nat → Nat → Int32} {fR : Nat → Nat → Option Nat} {a : Nat} (h : K a = 0) (x : Nat) (b : Nat) : va_up (g_F G K n rI rJ rQ fI fR) a (.inr (0, [.ref x, va_rf (fR a 1), va_rf (fR a 2), va_rf (fR a 3), va_rf (fR a 4), va_rf (fR a 5), .int (fI a 6)])) b = g_F G K n rI rJ rQ fI (g_up fR a 0 (some x)) b := by
  by_cases hb : b = a
  · subst hb; simp [g_F, h, va_up, g_up_same, show va_rf (some x) = Value.ref x from rfl]
  · simp [g_F, va_up, g_up_other _ _ _ hb, hb]
theorem g_u_Dots_number (G : gG) {K n : Nat → Nat} {rI : Nat → Nat → Int32} {rJ : Nat → Nat → Int64} {rQ : Nat → Nat → Option Nat} {fI : Nat → Nat → Int32} {fR : Nat → Nat → Option Nat} {a : Nat} (h : K a = 0) (x : Nat) (b : Nat) : va_up (g_F G K n rI rJ rQ fI fR) a (.inr (0, [va_rf (fR a 0), .ref x, va_rf (fR a 2), va_rf (fR a 3), va_rf (fR a 4), va_rf (fR a 5), .int (fI a 6)])) b = g_F G K n rI rJ rQ fI (g_up fR a 1 (some x)) b := by
  by_cases hb : b = a
  · subst hb; simp [g_F, h, va_up, g_up_same, show va_rf (some x) = Value.ref x from rfl]
  · simp [g_F, va_up, g_up_other _ _ _ hb, hb]
theorem g_u_Dots_key (G : gG) {K n : Nat → Nat} {rI : Nat → Nat → Int32} {rJ : Nat → Nat → Int64} {rQ : Nat → Nat → Option Nat} {fI : Nat → Nat → Int32} {fR : Nat → Nat → Option Nat} {a : Nat} (h : K a = 0) (x : Nat) (b : Nat) : va_up (g_F G K n rI rJ rQ fI fR) a (.inr (0, [va_rf (fR a 0), va_rf (fR a 1), .ref x, va_rf (fR a 3), va_rf (fR a 4), va_rf (fR a 5), .int (fI a 6)])) b = g_F G K n rI rJ rQ fI (g_up fR a 2 (some x)) b := by
  by_cases hb : b = a
  · subst hb; simp [g_F, h, va_up, g_up_same, show va_rf (some x) = Value.ref x from rfl]
  · simp [g_F, va_up, g_up_other _ _ _ hb, hb]
theorem g_u_Dots_part (G : gG) {K n : Nat → Nat} {rI : Nat → Nat → Int32} {rJ : Nat → Nat → Int64} {rQ : Nat → Nat → Option Nat} {fI : Nat → Nat → Int32} {fR : Nat → Nat → Option Nat} {a : Nat} (h : K a = 0) (x : Nat) (b : Nat) : va_up (g_F G K n rI rJ rQ fI fR) a (.inr (0, [va_rf (fR a 0), va_rf (fR a 1), va_rf (fR a 2), .ref x, va_rf (fR a 4), va_rf (fR a 5), .int (fI a 6)])) b = g_F G K n rI rJ rQ fI (g_up fR a 3 (some x)) b := by
  by_cases hb : b = a
  · subst hb; simp [g_F, h, va_up, g_up_same, show va_rf (some x) = Value.ref x from rfl]
  · simp [g_F, va_up, g_up_other _ _ _ hb, hb]
theorem g_u_Dots_value (G : gG) {K n : Nat → Nat} {rI : Nat → Nat → Int32} {rJ : Nat → Nat → Int64} {rQ : Nat → Nat → Option Nat} {fI : Nat → Nat → Int32} {fR : Nat → Nat → Option Nat} {a : Nat} (h : K a = 0) (x : Nat) (b : Nat) : va_up (g_F G K n rI rJ rQ fI fR) a (.inr (0, [va_rf (fR a 0), va_rf (fR a 1), va_rf (fR a 2), va_rf (fR a 3), .ref x, va_rf (fR a 5), .int (fI a 6)])) b = g_F G K n rI rJ rQ fI (g_up fR a 4 (some x)) b := by
  by_cases hb : b = a
  · subst hb; simp [g_F, h, va_up, g_up_same, show va_rf (some x) = Value.ref x from rfl]
  · simp [g_F, va_up, g_up_other _ _ _ hb, hb]
theorem g_u_Dots_greatest (G : gG) {K n : Nat → Nat} {rI : Nat → Nat → Int32} {rJ : Nat → Nat → Int64} {rQ : Nat → Nat → Option Nat} {fI : Nat → Nat → Int32} {fR : Nat → Nat → Option Nat} {a : Nat} (h : K a = 0) (x : Nat) (b : Nat) : va_up (g_F G K n rI rJ rQ fI fR) a (.inr (0, [va_rf (fR a 0), va_rf (fR a 1), va_rf (fR a 2), va_rf (fR a 3), va_rf (fR a 4), .ref x, .int (fI a 6)])) b = g_F G K n rI rJ rQ fI (g_up fR a 5 (some x)) b := by
  by_cases hb : b = a
  · subst hb; simp [g_F, h, va_up, g_up_same, show va_rf (some x) = Value.ref x from rfl]
  · simp [g_F, va_up, g_up_other _ _ _ hb, hb]
theorem g_u_Dots_count (G : gG) {K n : Nat → Nat} {rI : Nat → Nat → Int32} {rJ : Nat → Nat → Int64} {rQ : Nat → Nat → Option Nat} {fI : Nat → Nat → Int32} {fR : Nat → Nat → Option Nat} {a : Nat} (h : K a = 0) (x : Int32) (b : Nat) : va_up (g_F G K n rI rJ rQ fI fR) a (.inr (0, [va_rf (fR a 0), va_rf (fR a 1), va_rf (fR a 2), va_rf (fR a 3), va_rf (fR a 4), va_rf (fR a 5), .int x])) b = g_F G K n rI rJ rQ (g_up fI a 6 x) fR b := by
  by_cases hb : b = a
  · subst hb; simp [g_F, h, va_up, g_up_same]
  · simp [g_F, va_up, g_up_other _ _ _ hb, hb]
theorem g_u_State_seen (G : gG) {K n : Nat → Nat} {rI : Nat → Nat → Int32} {rJ : Nat → Nat → Int64} {rQ : Nat → Nat → Option Nat} {fI : Nat → Nat → Int32} {fR : Nat → Nat → Option Nat} {a : Nat} (h : K a = 1) (x : Nat) (b : Nat) : va_up (g_F G K n rI rJ rQ fI fR) a (.inr (1, [.ref x, va_rf (fR a 1), va_rf (fR a 2), .int (fI a 3), .int (fI a 4)])) b = g_F G K n rI rJ rQ fI (g_up fR a 0 (some x)) b := by
  by_cases hb : b = a
  · subst hb; simp [g_F, h, va_up, g_up_same, show va_rf (some x) = Value.ref x from rfl]
  · simp [g_F, va_up, g_up_other _ _ _ hb, hb]
theorem g_u_State_live (G : gG) {K n : Nat → Nat} {rI : Nat → Nat → Int32} {rJ : Nat → Nat → Int64} {rQ : Nat → Nat → Option Nat} {fI : Nat → Nat → Int32} {fR : Nat → Nat → Option Nat} {a : Nat} (h : K a = 1) (x : Nat) (b : Nat) : va_up (g_F G K n rI rJ rQ fI fR) a (.inr (1, [va_rf (fR a 0), .ref x, va_rf (fR a 2), .int (fI a 3), .int (fI a 4)])) b = g_F G K n rI rJ rQ fI (g_up fR a 1 (some x)) b := by
  by_cases hb : b = a
  · subst hb; simp [g_F, h, va_up, g_up_same, show va_rf (some x) = Value.ref x from rfl]
  · simp [g_F, va_up, g_up_other _ _ _ hb, hb]
theorem g_u_State_stamps (G : gG) {K n : Nat → Nat} {rI : Nat → Nat → Int32} {rJ : Nat → Nat → Int64} {rQ : Nat → Nat → Option Nat} {fI : Nat → Nat → Int32} {fR : Nat → Nat → Option Nat} {a : Nat} (h : K a = 1) (x : Nat) (b : Nat) : va_up (g_F G K n rI rJ rQ fI fR) a (.inr (1, [va_rf (fR a 0), va_rf (fR a 1), .ref x, .int (fI a 3), .int (fI a 4)])) b = g_F G K n rI rJ rQ fI (g_up fR a 2 (some x)) b := by
  by_cases hb : b = a
  · subst hb; simp [g_F, h, va_up, g_up_same, show va_rf (some x) = Value.ref x from rfl]
  · simp [g_F, va_up, g_up_other _ _ _ hb, hb]
theorem g_u_State_put (G : gG) {K n : Nat → Nat} {rI : Nat → Nat → Int32} {rJ : Nat → Nat → Int64} {rQ : Nat → Nat → Option Nat} {fI : Nat → Nat → Int32} {fR : Nat → Nat → Option Nat} {a : Nat} (h : K a = 1) (x : Int32) (b : Nat) : va_up (g_F G K n rI rJ rQ fI fR) a (.inr (1, [va_rf (fR a 0), va_rf (fR a 1), va_rf (fR a 2), .int x, .int (fI a 4)])) b = g_F G K n rI rJ rQ (g_up fI a 3 x) fR b := by
  by_cases hb : b = a
  · subst hb; simp [g_F, h, va_up, g_up_same]
  · simp [g_F, va_up, g_up_other _ _ _ hb, hb]
theorem g_u_State_taken (G : gG) {K n : Nat → Nat} {rI : Nat → Nat → Int32} {rJ : Nat → Nat → Int64} {rQ : Nat → Nat → Option Nat} {fI : Nat → Nat → Int32} {fR : Nat → Nat → Option Nat} {a : Nat} (h : K a = 1) (x : Int32) (b : Nat) : va_up (g_F G K n rI rJ rQ fI fR) a (.inr (1, [va_rf (fR a 0), va_rf (fR a 1), va_rf (fR a 2), .int (fI a 3), .int x])) b = g_F G K n rI rJ rQ (g_up fI a 4 x) fR b := by
  by_cases hb : b = a
  · subst hb; simp [g_F, h, va_up, g_up_same]
  · simp [g_F, va_up, g_up_other _ _ _ hb, hb]
theorem g_u_Desk_replicas (G : gG) {K n : Nat → Nat} {rI : Nat → Nat → Int32} {rJ : Nat → Nat → Int64} {rQ : Nat → Nat → Option Nat} {fI : Nat → Nat → Int32} {fR : Nat → Nat → Option Nat} {a : Nat} (h : K a = 2) (x : Nat) (b : Nat) : va_up (g_F G K n rI rJ rQ fI fR) a (.inr (2, [.ref x, va_rf (fR a 1), va_rf (fR a 2), va_rf (fR a 3), va_rf (fR a 4), .int (fI a 5)])) b = g_F G K n rI rJ rQ fI (g_up fR a 0 (some x)) b := by
  by_cases hb : b = a
  · subst hb; simp [g_F, h, va_up, g_up_same, show va_rf (some x) = Value.ref x from rfl]
  · simp [g_F, va_up, g_up_other _ _ _ hb, hb]
theorem g_u_Desk_made (G : gG) {K n : Nat → Nat} {rI : Nat → Nat → Int32} {rJ : Nat → Nat → Int64} {rQ : Nat → Nat → Option Nat} {fI : Nat → Nat → Int32} {fR : Nat → Nat → Option Nat} {a : Nat} (h : K a = 2) (x : Nat) (b : Nat) : va_up (g_F G K n rI rJ rQ fI fR) a (.inr (2, [va_rf (fR a 0), .ref x, va_rf (fR a 2), va_rf (fR a 3), va_rf (fR a 4), .int (fI a 5)])) b = g_F G K n rI rJ rQ fI (g_up fR a 1 (some x)) b := by
  by_cases hb : b = a
  · subst hb; simp [g_F, h, va_up, g_up_same, show va_rf (some x) = Value.ref x from rfl]
  · simp [g_F, va_up, g_up_other _ _ _ hb, hb]
theorem g_u_Desk_dots (G : gG) {K n : Nat → Nat} {rI : Nat → Nat → Int32} {rJ : Nat → Nat → Int64} {rQ : Nat → Nat → Option Nat} {fI : Nat → Nat → Int32} {fR : Nat → Nat → Option Nat} {a : Nat} (h : K a = 2) (x : Nat) (b : Nat) : va_up (g_F G K n rI rJ rQ fI fR) a (.inr (2, [va_rf (fR a 0), va_rf (fR a 1), .ref x, va_rf (fR a 3), va_rf (fR a 4), .int (fI a 5)])) b = g_F G K n rI rJ rQ fI (g_up fR a 2 (some x)) b := by
  by_cases hb : b = a
  · subst hb; simp [g_F, h, va_up, g_up_same, show va_rf (some x) = Value.ref x from rfl]
  · simp [g_F, va_up, g_up_other _ _ _ hb, hb]
theorem g_u_Desk_trial (G : gG) {K n : Nat → Nat} {rI : Nat → Nat → Int32} {rJ : Nat → Nat → Int64} {rQ : Nat → Nat → Option Nat} {fI : Nat → Nat → Int32} {fR : Nat → Nat → Option Nat} {a : Nat} (h : K a = 2) (x : Nat) (b : Nat) : va_up (g_F G K n rI rJ rQ fI fR) a (.inr (2, [va_rf (fR a 0), va_rf (fR a 1), va_rf (fR a 2), .ref x, va_rf (fR a 4), .int (fI a 5)])) b = g_F G K n rI rJ rQ fI (g_up fR a 3 (some x)) b := by
  by_cases hb : b = a
  · subst hb; simp [g_F, h, va_up, g_up_same, show va_rf (some x) = Value.ref x from rfl]
  · simp [g_F, va_up, g_up_other _ _ _ hb, hb]
theorem g_u_Desk_ordered (G : gG) {K n : Nat → Nat} {rI : Nat → Nat → Int32} {rJ : Nat → Nat → Int64} {rQ : Nat → Nat → Option Nat} {fI : Nat → Nat → Int32} {fR : Nat → Nat → Option Nat} {a : Nat} (h : K a = 2) (x : Nat) (b : Nat) : va_up (g_F G K n rI rJ rQ fI fR) a (.inr (2, [va_rf (fR a 0), va_rf (fR a 1), va_rf (fR a 2), va_rf (fR a 3), .ref x, .int (fI a 5)])) b = g_F G K n rI rJ rQ fI (g_up fR a 4 (some x)) b := by
  by_cases hb : b = a
  · subst hb; simp [g_F, h, va_up, g_up_same, show va_rf (some x) = Value.ref x from rfl]
  · simp [g_F, va_up, g_up_other _ _ _ hb, hb]
theorem g_u_Desk_madeCount (G : gG) {K n : Nat → Nat} {rI : Nat → Nat → Int32} {rJ : Nat → Nat → Int64} {rQ : Nat → Nat → Option Nat} {fI : Nat → Nat → Int32} {fR : Nat → Nat → Option Nat} {a : Nat} (h : K a = 2) (x : Int32) (b : Nat) : va_up (g_F G K n rI rJ rQ fI fR) a (.inr (2, [va_rf (fR a 0), va_rf (fR a 1), va_rf (fR a 2), va_rf (fR a 3), va_rf (fR a 4), .int x])) b = g_F G K n rI rJ rQ (g_up fI a 5 x) fR b := by
  by_cases hb : b = a
  · subst hb; simp [g_F, h, va_up, g_up_same]
  · simp [g_F, va_up, g_up_other _ _ _ hb, hb]
theorem g_u_Model_thrown (G : gG) {K n : Nat → Nat} {rI : Nat → Nat → Int32} {rJ : Nat → Nat → Int64} {rQ : Nat → Nat → Option Nat} {fI : Nat → Nat → Int32} {fR : Nat → Nat → Option Nat} {a : Nat} (h : K a = 3) (x : Int32) (b : Nat) : va_up (g_F G K n rI rJ rQ fI fR) a (.inr (3, [.int x, .int (fI a 1), va_rf (fR a 2), va_rf (fR a 3), va_rf (fR a 4), va_rf (fR a 5), va_rf (fR a 6), va_rf (fR a 7), va_rf (fR a 8), va_rf (fR a 9), va_rf (fR a 10), va_rf (fR a 11), .int (fI a 12), va_rf (fR a 13)])) b = g_F G K n rI rJ rQ (g_up fI a 0 x) fR b := by
  by_cases hb : b = a
  · subst hb; simp [g_F, h, va_up, g_up_same]
  · simp [g_F, va_up, g_up_other _ _ _ hb, hb]
theorem g_u_Model_deltas (G : gG) {K n : Nat → Nat} {rI : Nat → Nat → Int32} {rJ : Nat → Nat → Int64} {rQ : Nat → Nat → Option Nat} {fI : Nat → Nat → Int32} {fR : Nat → Nat → Option Nat} {a : Nat} (h : K a = 3) (x : Int32) (b : Nat) : va_up (g_F G K n rI rJ rQ fI fR) a (.inr (3, [.int (fI a 0), .int x, va_rf (fR a 2), va_rf (fR a 3), va_rf (fR a 4), va_rf (fR a 5), va_rf (fR a 6), va_rf (fR a 7), va_rf (fR a 8), va_rf (fR a 9), va_rf (fR a 10), va_rf (fR a 11), .int (fI a 12), va_rf (fR a 13)])) b = g_F G K n rI rJ rQ (g_up fI a 1 x) fR b := by
  by_cases hb : b = a
  · subst hb; simp [g_F, h, va_up, g_up_same]
  · simp [g_F, va_up, g_up_other _ _ _ hb, hb]
theorem g_u_Model_seen (G : gG) {K n : Nat → Nat} {rI : Nat → Nat → Int32} {rJ : Nat → Nat → Int64} {rQ : Nat → Nat → Option Nat} {fI : Nat → Nat → Int32} {fR : Nat → Nat → Option Nat} {a : Nat} (h : K a = 3) (x : Nat) (b : Nat) : va_up (g_F G K n rI rJ rQ fI fR) a (.inr (3, [.int (fI a 0), .int (fI a 1), .ref x, va_rf (fR a 3), va_rf (fR a 4), va_rf (fR a 5), va_rf (fR a 6), va_rf (fR a 7), va_rf (fR a 8), va_rf (fR a 9), va_rf (fR a 10), va_rf (fR a 11), .int (fI a 12), va_rf (fR a 13)])) b = g_F G K n rI rJ rQ fI (g_up fR a 2 (some x)) b := by
  by_cases hb : b = a
  · subst hb; simp [g_F, h, va_up, g_up_same, show va_rf (some x) = Value.ref x from rfl]
  · simp [g_F, va_up, g_up_other _ _ _ hb, hb]
theorem g_u_Model_live (G : gG) {K n : Nat → Nat} {rI : Nat → Nat → Int32} {rJ : Nat → Nat → Int64} {rQ : Nat → Nat → Option Nat} {fI : Nat → Nat → Int32} {fR : Nat → Nat → Option Nat} {a : Nat} (h : K a = 3) (x : Nat) (b : Nat) : va_up (g_F G K n rI rJ rQ fI fR) a (.inr (3, [.int (fI a 0), .int (fI a 1), va_rf (fR a 2), .ref x, va_rf (fR a 4), va_rf (fR a 5), va_rf (fR a 6), va_rf (fR a 7), va_rf (fR a 8), va_rf (fR a 9), va_rf (fR a 10), va_rf (fR a 11), .int (fI a 12), va_rf (fR a 13)])) b = g_F G K n rI rJ rQ fI (g_up fR a 3 (some x)) b := by
  by_cases hb : b = a
  · subst hb; simp [g_F, h, va_up, g_up_same, show va_rf (some x) = Value.ref x from rfl]
  · simp [g_F, va_up, g_up_other _ _ _ hb, hb]
theorem g_u_Model_put (G : gG) {K n : Nat → Nat} {rI : Nat → Nat → Int32} {rJ : Nat → Nat → Int64} {rQ : Nat → Nat → Option Nat} {fI : Nat → Nat → Int32} {fR : Nat → Nat → Option Nat} {a : Nat} (h : K a = 3) (x : Nat) (b : Nat) : va_up (g_F G K n rI rJ rQ fI fR) a (.inr (3, [.int (fI a 0), .int (fI a 1), va_rf (fR a 2), va_rf (fR a 3), .ref x, va_rf (fR a 5), va_rf (fR a 6), va_rf (fR a 7), va_rf (fR a 8), va_rf (fR a 9), va_rf (fR a 10), va_rf (fR a 11), .int (fI a 12), va_rf (fR a 13)])) b = g_F G K n rI rJ rQ fI (g_up fR a 4 (some x)) b := by
  by_cases hb : b = a
  · subst hb; simp [g_F, h, va_up, g_up_same, show va_rf (some x) = Value.ref x from rfl]
  · simp [g_F, va_up, g_up_other _ _ _ hb, hb]
theorem g_u_Model_taken (G : gG) {K n : Nat → Nat} {rI : Nat → Nat → Int32} {rJ : Nat → Nat → Int64} {rQ : Nat → Nat → Option Nat} {fI : Nat → Nat → Int32} {fR : Nat → Nat → Option Nat} {a : Nat} (h : K a = 3) (x : Nat) (b : Nat) : va_up (g_F G K n rI rJ rQ fI fR) a (.inr (3, [.int (fI a 0), .int (fI a 1), va_rf (fR a 2), va_rf (fR a 3), va_rf (fR a 4), .ref x, va_rf (fR a 6), va_rf (fR a 7), va_rf (fR a 8), va_rf (fR a 9), va_rf (fR a 10), va_rf (fR a 11), .int (fI a 12), va_rf (fR a 13)])) b = g_F G K n rI rJ rQ fI (g_up fR a 5 (some x)) b := by
  by_cases hb : b = a
  · subst hb; simp [g_F, h, va_up, g_up_same, show va_rf (some x) = Value.ref x from rfl]
  · simp [g_F, va_up, g_up_other _ _ _ hb, hb]
theorem g_u_Model_time (G : gG) {K n : Nat → Nat} {rI : Nat → Nat → Int32} {rJ : Nat → Nat → Int64} {rQ : Nat → Nat → Option Nat} {fI : Nat → Nat → Int32} {fR : Nat → Nat → Option Nat} {a : Nat} (h : K a = 3) (x : Nat) (b : Nat) : va_up (g_F G K n rI rJ rQ fI fR) a (.inr (3, [.int (fI a 0), .int (fI a 1), va_rf (fR a 2), va_rf (fR a 3), va_rf (fR a 4), va_rf (fR a 5), .ref x, va_rf (fR a 7), va_rf (fR a 8), va_rf (fR a 9), va_rf (fR a 10), va_rf (fR a 11), .int (fI a 12), va_rf (fR a 13)])) b = g_F G K n rI rJ rQ fI (g_up fR a 6 (some x)) b := by
  by_cases hb : b = a
  · subst hb; simp [g_F, h, va_up, g_up_same, show va_rf (some x) = Value.ref x from rfl]
  · simp [g_F, va_up, g_up_other _ _ _ hb, hb]
theorem g_u_Model_by (G : gG) {K n : Nat → Nat} {rI : Nat → Nat → Int32} {rJ : Nat → Nat → Int64} {rQ : Nat → Nat → Option Nat} {fI : Nat → Nat → Int32} {fR : Nat → Nat → Option Nat} {a : Nat} (h : K a = 3) (x : Nat) (b : Nat) : va_up (g_F G K n rI rJ rQ fI fR) a (.inr (3, [.int (fI a 0), .int (fI a 1), va_rf (fR a 2), va_rf (fR a 3), va_rf (fR a 4), va_rf (fR a 5), va_rf (fR a 6), .ref x, va_rf (fR a 8), va_rf (fR a 9), va_rf (fR a 10), va_rf (fR a 11), .int (fI a 12), va_rf (fR a 13)])) b = g_F G K n rI rJ rQ fI (g_up fR a 7 (some x)) b := by
  by_cases hb : b = a
  · subst hb; simp [g_F, h, va_up, g_up_same, show va_rf (some x) = Value.ref x from rfl]
  · simp [g_F, va_up, g_up_other _ _ _ hb, hb]
theorem g_u_Model_isIn (G : gG) {K n : Nat → Nat} {rI : Nat → Nat → Int32} {rJ : Nat → Nat → Int64} {rQ : Nat → Nat → Option Nat} {fI : Nat → Nat → Int32} {fR : Nat → Nat → Option Nat} {a : Nat} (h : K a = 3) (x : Nat) (b : Nat) : va_up (g_F G K n rI rJ rQ fI fR) a (.inr (3, [.int (fI a 0), .int (fI a 1), va_rf (fR a 2), va_rf (fR a 3), va_rf (fR a 4), va_rf (fR a 5), va_rf (fR a 6), va_rf (fR a 7), .ref x, va_rf (fR a 9), va_rf (fR a 10), va_rf (fR a 11), .int (fI a 12), va_rf (fR a 13)])) b = g_F G K n rI rJ rQ fI (g_up fR a 8 (some x)) b := by
  by_cases hb : b = a
  · subst hb; simp [g_F, h, va_up, g_up_same, show va_rf (some x) = Value.ref x from rfl]
  · simp [g_F, va_up, g_up_other _ _ _ hb, hb]
theorem g_u_Model_dotKey (G : gG) {K n : Nat → Nat} {rI : Nat → Nat → Int32} {rJ : Nat → Nat → Int64} {rQ : Nat → Nat → Option Nat} {fI : Nat → Nat → Int32} {fR : Nat → Nat → Option Nat} {a : Nat} (h : K a = 3) (x : Nat) (b : Nat) : va_up (g_F G K n rI rJ rQ fI fR) a (.inr (3, [.int (fI a 0), .int (fI a 1), va_rf (fR a 2), va_rf (fR a 3), va_rf (fR a 4), va_rf (fR a 5), va_rf (fR a 6), va_rf (fR a 7), va_rf (fR a 8), .ref x, va_rf (fR a 10), va_rf (fR a 11), .int (fI a 12), va_rf (fR a 13)])) b = g_F G K n rI rJ rQ fI (g_up fR a 9 (some x)) b := by
  by_cases hb : b = a
  · subst hb; simp [g_F, h, va_up, g_up_same, show va_rf (some x) = Value.ref x from rfl]
  · simp [g_F, va_up, g_up_other _ _ _ hb, hb]
theorem g_u_Model_dotPart (G : gG) {K n : Nat → Nat} {rI : Nat → Nat → Int32} {rJ : Nat → Nat → Int64} {rQ : Nat → Nat → Option Nat} {fI : Nat → Nat → Int32} {fR : Nat → Nat → Option Nat} {a : Nat} (h : K a = 3) (x : Nat) (b : Nat) : va_up (g_F G K n rI rJ rQ fI fR) a (.inr (3, [.int (fI a 0), .int (fI a 1), va_rf (fR a 2), va_rf (fR a 3), va_rf (fR a 4), va_rf (fR a 5), va_rf (fR a 6), va_rf (fR a 7), va_rf (fR a 8), va_rf (fR a 9), .ref x, va_rf (fR a 11), .int (fI a 12), va_rf (fR a 13)])) b = g_F G K n rI rJ rQ fI (g_up fR a 10 (some x)) b := by
  by_cases hb : b = a
  · subst hb; simp [g_F, h, va_up, g_up_same, show va_rf (some x) = Value.ref x from rfl]
  · simp [g_F, va_up, g_up_other _ _ _ hb, hb]
theorem g_u_Model_dotValue (G : gG) {K n : Nat → Nat} {rI : Nat → Nat → Int32} {rJ : Nat → Nat → Int64} {rQ : Nat → Nat → Option Nat} {fI : Nat → Nat → Int32} {fR : Nat → Nat → Option Nat} {a : Nat} (h : K a = 3) (x : Nat) (b : Nat) : va_up (g_F G K n rI rJ rQ fI fR) a (.inr (3, [.int (fI a 0), .int (fI a 1), va_rf (fR a 2), va_rf (fR a 3), va_rf (fR a 4), va_rf (fR a 5), va_rf (fR a 6), va_rf (fR a 7), va_rf (fR a 8), va_rf (fR a 9), va_rf (fR a 10), .ref x, .int (fI a 12), va_rf (fR a 13)])) b = g_F G K n rI rJ rQ fI (g_up fR a 11 (some x)) b := by
  by_cases hb : b = a
  · subst hb; simp [g_F, h, va_up, g_up_same, show va_rf (some x) = Value.ref x from rfl]
  · simp [g_F, va_up, g_up_other _ _ _ hb, hb]
theorem g_u_Model_many (G : gG) {K n : Nat → Nat} {rI : Nat → Nat → Int32} {rJ : Nat → Nat → Int64} {rQ : Nat → Nat → Option Nat} {fI : Nat → Nat → Int32} {fR : Nat → Nat → Option Nat} {a : Nat} (h : K a = 3) (x : Int32) (b : Nat) : va_up (g_F G K n rI rJ rQ fI fR) a (.inr (3, [.int (fI a 0), .int (fI a 1), va_rf (fR a 2), va_rf (fR a 3), va_rf (fR a 4), va_rf (fR a 5), va_rf (fR a 6), va_rf (fR a 7), va_rf (fR a 8), va_rf (fR a 9), va_rf (fR a 10), va_rf (fR a 11), .int x, va_rf (fR a 13)])) b = g_F G K n rI rJ rQ (g_up fI a 12 x) fR b := by
  by_cases hb : b = a
  · subst hb; simp [g_F, h, va_up, g_up_same]
  · simp [g_F, va_up, g_up_other _ _ _ hb, hb]
theorem g_u_Model_sorted (G : gG) {K n : Nat → Nat} {rI : Nat → Nat → Int32} {rJ : Nat → Nat → Int64} {rQ : Nat → Nat → Option Nat} {fI : Nat → Nat → Int32} {fR : Nat → Nat → Option Nat} {a : Nat} (h : K a = 3) (x : Nat) (b : Nat) : va_up (g_F G K n rI rJ rQ fI fR) a (.inr (3, [.int (fI a 0), .int (fI a 1), va_rf (fR a 2), va_rf (fR a 3), va_rf (fR a 4), va_rf (fR a 5), va_rf (fR a 6), va_rf (fR a 7), va_rf (fR a 8), va_rf (fR a 9), va_rf (fR a 10), va_rf (fR a 11), .int (fI a 12), .ref x])) b = g_F G K n rI rJ rQ fI (g_up fR a 13 (some x)) b := by
  by_cases hb : b = a
  · subst hb; simp [g_F, h, va_up, g_up_same, show va_rf (some x) = Value.ref x from rfl]
  · simp [g_F, va_up, g_up_other _ _ _ hb, hb]
theorem g_set {G : gG} {base : Nat} {H0 H1 : Heap} {L : List Nat} {locs1 : List Loc} {F F2 : Nat → va_E} {a k : Nat} {e : va_E} (hb : base ≤ H0.size) (hD : va_D (g_A base) (va_pl L F)) (hL : a ∈ L) (hk : ([] ++ va_pl L F)[k]? = some (a, F a)) (hu : ∀ b, va_up F a e b = F2 b)
    (h1 : va_P G.1 vwCl ((va_pl L F).set k (a, e)) H1) (h2 : va_D (g_A base) ((va_pl L F).set k (a, e))) (h3 : va_S (g_A base) H0 H1 locs1) : va_P G.1 vwCl (va_pl L F2) H1 ∧ va_D (g_A base) (va_pl L F2) ∧ va_S (g_A base) H0 H1 locs1 ∧ base ≤ H0.size := by
  have e1 : (va_pl L F).set k (a, e) = va_pl L F2 := (va_pl_set (X := []) (e := e) hD hL hk).trans (va_pl_congr hu)
  rw [e1] at h1 h2
  exact ⟨h1, h2, h3, hb⟩
section GL
variable {p : Program} {l : Launch} {e : Env} {R : Room} {s : State} {m : MethodId} {args : Array Value} {below : List Frame} {meth : Method} {c : Code} {H : Heap} {locs : List Loc} {cells slots : Nat} {Q : State → Prop}
variable {cc : ByteArray} {pc : Nat} {ls : Array Slot} {rest : List Value} {G : gG} {base : Nat} {H0 : Heap} {L : List Nat} {K n : Nat → Nat} {rI : Nat → Nat → Int32} {rJ : Nat → Nat → Int64} {rQ : Nat → Nat → Option Nat} {fI : Nat → Nat → Int32} {fR : Nat → Nat → Option Nat} {a : Nat}
theorem g_iald (hx : p.tables.exec = Jvm.exec) (hb : c.code = cc) (hK : g_K G s) (hG : gw G base H0 (L, K, n, rI, rJ, rQ, fI, fR) H locs) (hL : a ∈ L) (hk : K a = 4) {i : Int32} (j : Nat) (hi : i = nI j) (hj : j < n a) (hn : n a < 2 ^ 31) (hdg : decode cc pc = .ok (.iaload, 1))
    (kk : W p l e R s m args below meth c H locs cells slots Q (F0 m (pc + 1) ls (.int (rI a j) :: rest))) : W p l e R s m args below meth c H locs cells slots Q (F0 m pc ls (.int i :: .ref a :: rest)) := by
  obtain ⟨k0, h0⟩ := va_pl_get (X := []) (f := g_F G K n rI rJ rQ fI fR) hL
  have hc : i.toNatClampNeg = j := by rw [hi]; exact nI_clamp (by omega)
  exact va_iald hx hb hK hG.1 k0 0 (h0.trans (congrArg (fun e => some (a, e)) (g_k4 G hk))) rfl (by rw [hi]; exact vp_in_nI hj hn) hdg (by rw [hc]; exact kk)
theorem g_lald (hx : p.tables.exec = Jvm.exec) (hb : c.code = cc) (hK : g_K G s) (hG : gw G base H0 (L, K, n, rI, rJ, rQ, fI, fR) H locs) (hL : a ∈ L) (hk : K a = 5) {i : Int32} (j : Nat) (hi : i = nI j) (hj : j < n a) (hn : n a < 2 ^ 31) (hdg : decode cc pc = .ok (.laload, 1))
    (kk : W p l e R s m args below meth c H locs cells slots Q (F0 m (pc + 1) ls (.long (rJ a j) :: rest))) : W p l e R s m args below meth c H locs cells slots Q (F0 m pc ls (.int i :: .ref a :: rest)) := by
  obtain ⟨k0, h0⟩ := va_pl_get (X := []) (f := g_F G K n rI rJ rQ fI fR) hL
  have hc : i.toNatClampNeg = j := by rw [hi]; exact nI_clamp (by omega)
  exact va_lald hx hb hK hG.1 k0 1 (h0.trans (congrArg (fun e => some (a, e)) (g_k5 G hk))) rfl (by rw [hi]; exact vp_in_nI hj hn) hdg (by rw [hc]; exact kk)
theorem g_zald (hx : p.tables.exec = Jvm.exec) (hb : c.code = cc) (hK : g_K G s) (hG : gw G base H0 (L, K, n, rI, rJ, rQ, fI, fR) H locs) (hL : a ∈ L) (hk : K a = 6) {i : Int32} (j : Nat) (hi : i = nI j) (hj : j < n a) (hn : n a < 2 ^ 31) (hdg : decode cc pc = .ok (.baload, 1))
    (kk : W p l e R s m args below meth c H locs cells slots Q (F0 m (pc + 1) ls (.int (rI a j) :: rest))) : W p l e R s m args below meth c H locs cells slots Q (F0 m pc ls (.int i :: .ref a :: rest)) := by
  obtain ⟨k0, h0⟩ := va_pl_get (X := []) (f := g_F G K n rI rJ rQ fI fR) hL
  have hc : i.toNatClampNeg = j := by rw [hi]; exact nI_clamp (by omega)
  exact va_zald hx hb hK hG.1 k0 2 (h0.trans (congrArg (fun e => some (a, e)) (g_k6 G hk))) rfl (by rw [hi]; exact vp_in_nI hj hn) hdg (by rw [hc]; exact kk)
theorem g_aald (hx : p.tables.exec = Jvm.exec) (hb : c.code = cc) (hK : g_K G s) (hG : gw G base H0 (L, K, n, rI, rJ, rQ, fI, fR) H locs) (hL : a ∈ L) (hk : K a = 7) {i : Int32} (j : Nat) (hi : i = nI j) (hj : j < n a) (hn : n a < 2 ^ 31) (hdg : decode cc pc = .ok (.aaload, 1))
    (kk : W p l e R s m args below meth c H locs cells slots Q (F0 m (pc + 1) ls (va_rf (rQ a j) :: rest))) : W p l e R s m args below meth c H locs cells slots Q (F0 m pc ls (.int i :: .ref a :: rest)) := by
  obtain ⟨k0, h0⟩ := va_pl_get (X := []) (f := g_F G K n rI rJ rQ fI fR) hL
  have hc : i.toNatClampNeg = j := by rw [hi]; exact nI_clamp (by omega)
  exact va_aldq hx hb hK hG.1 k0 3 (h0.trans (congrArg (fun e => some (a, e)) (g_k7 G hk))) rfl (by rw [hi]; exact vp_in_nI hj hn) hdg (by rw [hc]; exact kk)
theorem g_iast (hx : p.tables.exec = Jvm.exec) (hb : c.code = cc) (hK : g_K G s) (hG : gw G base H0 (L, K, n, rI, rJ, rQ, fI, fR) H locs) (hL : a ∈ L) (hk : K a = 4) {i : Int32} {x : Int32} (j : Nat) (hi : i = nI j) (hj : j < n a) (hn : n a < 2 ^ 31) (hdg : decode cc pc = .ok (.iastore, 1))
    (kk : ∀ (H1 : Heap) (locs1 : List Loc), gw G base H0 (L, K, n, g_up rI a j x, rJ, rQ, fI, fR) H1 locs1 → W p l e R s m args below meth c H1 locs1 cells slots Q (F0 m (pc + 1) ls rest)) : W p l e R s m args below meth c H locs cells slots Q (F0 m pc ls (.int x :: .int i :: .ref a :: rest)) := by
  obtain ⟨k0, h0⟩ := va_pl_get (X := []) (f := g_F G K n rI rJ rQ fI fR) hL
  have hc : i.toNatClampNeg = j := by rw [hi]; exact nI_clamp (by omega)
  refine va_iast hx hb hK hG.1 hG.2.1 hG.2.2.1 k0 0 (h0.trans (congrArg (fun e => some (a, e)) (g_k4 G hk))) rfl (by rw [hi]; exact vp_in_nI hj hn) hdg (fun H1 locs1 h1 h2 h3 => kk H1 locs1 ?_)
  rw [hc] at h1 h2
  exact g_set hG.2.2.2 hG.2.1 hL h0 (g_u4 G hk j x) h1 h2 h3
theorem g_last (hx : p.tables.exec = Jvm.exec) (hb : c.code = cc) (hK : g_K G s) (hG : gw G base H0 (L, K, n, rI, rJ, rQ, fI, fR) H locs) (hL : a ∈ L) (hk : K a = 5) {i : Int32} {x : Int64} (j : Nat) (hi : i = nI j) (hj : j < n a) (hn : n a < 2 ^ 31) (hdg : decode cc pc = .ok (.lastore, 1))
    (kk : ∀ (H1 : Heap) (locs1 : List Loc), gw G base H0 (L, K, n, rI, g_up rJ a j x, rQ, fI, fR) H1 locs1 → W p l e R s m args below meth c H1 locs1 cells slots Q (F0 m (pc + 1) ls rest)) : W p l e R s m args below meth c H locs cells slots Q (F0 m pc ls (.long x :: .int i :: .ref a :: rest)) := by
  obtain ⟨k0, h0⟩ := va_pl_get (X := []) (f := g_F G K n rI rJ rQ fI fR) hL
  have hc : i.toNatClampNeg = j := by rw [hi]; exact nI_clamp (by omega)
  refine va_last hx hb hK hG.1 hG.2.1 hG.2.2.1 k0 1 (h0.trans (congrArg (fun e => some (a, e)) (g_k5 G hk))) rfl (by rw [hi]; exact vp_in_nI hj hn) hdg (fun H1 locs1 h1 h2 h3 => kk H1 locs1 ?_)
  rw [hc] at h1 h2
  exact g_set hG.2.2.2 hG.2.1 hL h0 (g_u5 G hk j x) h1 h2 h3
theorem g_zast (hx : p.tables.exec = Jvm.exec) (hb : c.code = cc) (hK : g_K G s) (hG : gw G base H0 (L, K, n, rI, rJ, rQ, fI, fR) H locs) (hL : a ∈ L) (hk : K a = 6) {i : Int32} {x : Int32} (j : Nat) (hi : i = nI j) (hj : j < n a) (hn : n a < 2 ^ 31) (hz : vp_nar .boolean x = x) (hdg : decode cc pc = .ok (.bastore, 1))
    (kk : ∀ (H1 : Heap) (locs1 : List Loc), gw G base H0 (L, K, n, g_up rI a j x, rJ, rQ, fI, fR) H1 locs1 → W p l e R s m args below meth c H1 locs1 cells slots Q (F0 m (pc + 1) ls rest)) : W p l e R s m args below meth c H locs cells slots Q (F0 m pc ls (.int x :: .int i :: .ref a :: rest)) := by
  obtain ⟨k0, h0⟩ := va_pl_get (X := []) (f := g_F G K n rI rJ rQ fI fR) hL
  have hc : i.toNatClampNeg = j := by rw [hi]; exact nI_clamp (by omega)
  refine va_zast hx hb hK hG.1 hG.2.1 hG.2.2.1 k0 2 (h0.trans (congrArg (fun e => some (a, e)) (g_k6 G hk))) rfl (by rw [hi]; exact vp_in_nI hj hn) hdg (fun H1 locs1 h1 h2 h3 => kk H1 locs1 ?_)
  rw [hc, hz] at h1 h2
  exact g_set hG.2.2.2 hG.2.1 hL h0 (g_u6 G hk j x) h1 h2 h3
theorem g_aast (hx : p.tables.exec = Jvm.exec) (hb : c.code = cc) (hK : g_K G s) (hG : gw G base H0 (L, K, n, rI, rJ, rQ, fI, fR) H locs) (hL : a ∈ L) (hk : K a = 7) {v : Nat} (hLv : v ∈ L) (hkv : K v = 1) {i : Int32} (j : Nat) (hi : i = nI j) (hj : j < n a) (hn : n a < 2 ^ 31) (hdg : decode cc pc = .ok (.aastore, 1))
    (kk : ∀ (H1 : Heap) (locs1 : List Loc), gw G base H0 (L, K, n, rI, rJ, g_up rQ a j (some v), fI, fR) H1 locs1 → W p l e R s m args below meth c H1 locs1 cells slots Q (F0 m (pc + 1) ls rest)) : W p l e R s m args below meth c H locs cells slots Q (F0 m pc ls (.ref v :: .int i :: .ref a :: rest)) := by
  obtain ⟨k0, h0⟩ := va_pl_get (X := []) (f := g_F G K n rI rJ rQ fI fR) hL
  obtain ⟨k1, h1⟩ := va_pl_get (X := []) (f := g_F G K n rI rJ rQ fI fR) hLv
  have hc : i.toNatClampNeg = j := by rw [hi]; exact nI_clamp (by omega)
  refine va_astq (r := (RX1, TX1, 5)) hx hb hK hG.1 hG.2.1 hG.2.2.1 k0 3 k1 1 (h0.trans (congrArg (fun e => some (a, e)) (g_k7 G hk))) rfl (h1.trans (congrArg (fun e => some (v, e)) (g_k1 G hkv))) rfl (by rw [hi]; exact vp_in_nI hj hn) hdg (fun H1 locs1 h1 h2 h3 => kk H1 locs1 ?_)
  rw [hc] at h1 h2
  exact g_set hG.2.2.2 hG.2.1 hL h0 (g_u7 G hk j (some v)) h1 h2 h3
theorem g_alen4 (hx : p.tables.exec = Jvm.exec) (hb : c.code = cc) (hK : g_K G s) (hG : gw G base H0 (L, K, n, rI, rJ, rQ, fI, fR) H locs) (hL : a ∈ L) (hk : K a = 4) (N : Nat) (hN : n a = N) (hdg : decode cc pc = .ok (.arraylength, 1))
    (kk : W p l e R s m args below meth c H locs cells slots Q (F0 m (pc + 1) ls (.int (nI N) :: rest))) : W p l e R s m args below meth c H locs cells slots Q (F0 m pc ls (.ref a :: rest)) := by
  obtain ⟨k0, h0⟩ := va_pl_get (X := []) (f := g_F G K n rI rJ rQ fI fR) hL
  exact va_alen hx hb hK hG.1 k0 0 (h0.trans (congrArg (fun e => some (a, e)) (g_k4 G hk))) rfl (by rw [← hN]; rfl) hdg kk
theorem g_alen5 (hx : p.tables.exec = Jvm.exec) (hb : c.code = cc) (hK : g_K G s) (hG : gw G base H0 (L, K, n, rI, rJ, rQ, fI, fR) H locs) (hL : a ∈ L) (hk : K a = 5) (N : Nat) (hN : n a = N) (hdg : decode cc pc = .ok (.arraylength, 1))
    (kk : W p l e R s m args below meth c H locs cells slots Q (F0 m (pc + 1) ls (.int (nI N) :: rest))) : W p l e R s m args below meth c H locs cells slots Q (F0 m pc ls (.ref a :: rest)) := by
  obtain ⟨k0, h0⟩ := va_pl_get (X := []) (f := g_F G K n rI rJ rQ fI fR) hL
  exact va_alen hx hb hK hG.1 k0 1 (h0.trans (congrArg (fun e => some (a, e)) (g_k5 G hk))) rfl (by rw [← hN]; rfl) hdg kk
theorem g_alen6 (hx : p.tables.exec = Jvm.exec) (hb : c.code = cc) (hK : g_K G s) (hG : gw G base H0 (L, K, n, rI, rJ, rQ, fI, fR) H locs) (hL : a ∈ L) (hk : K a = 6) (N : Nat) (hN : n a = N) (hdg : decode cc pc = .ok (.arraylength, 1))
    (kk : W p l e R s m args below meth c H locs cells slots Q (F0 m (pc + 1) ls (.int (nI N) :: rest))) : W p l e R s m args below meth c H locs cells slots Q (F0 m pc ls (.ref a :: rest)) := by
  obtain ⟨k0, h0⟩ := va_pl_get (X := []) (f := g_F G K n rI rJ rQ fI fR) hL
  exact va_alen hx hb hK hG.1 k0 2 (h0.trans (congrArg (fun e => some (a, e)) (g_k6 G hk))) rfl (by rw [← hN]; rfl) hdg kk
theorem g_alen7 (hx : p.tables.exec = Jvm.exec) (hb : c.code = cc) (hK : g_K G s) (hG : gw G base H0 (L, K, n, rI, rJ, rQ, fI, fR) H locs) (hL : a ∈ L) (hk : K a = 7) (N : Nat) (hN : n a = N) (hdg : decode cc pc = .ok (.arraylength, 1))
    (kk : W p l e R s m args below meth c H locs cells slots Q (F0 m (pc + 1) ls (.int (nI N) :: rest))) : W p l e R s m args below meth c H locs cells slots Q (F0 m pc ls (.ref a :: rest)) := by
  obtain ⟨k0, h0⟩ := va_pl_get (X := []) (f := g_F G K n rI rJ rQ fI fR) hL
  exact va_alen hx hb hK hG.1 k0 3 (h0.trans (congrArg (fun e => some (a, e)) (g_k7 G hk))) rfl (by rw [← hN]; rfl) hdg kk
theorem r_Dots_replica (hx : p.tables.exec = Jvm.exec) (hb : c.code = cc) {own : String} {index : Nat} {Ts : List Cond} (hts : ∀ w ∈ Ts, w.before args s = true) (hin : ∀ w ∈ wsX00, w ∈ Ts) (hown : s.vm.findClass own = some m.cls) (hK : g_K G s) (hG : gw G base H0 (L, K, n, rI, rJ, rQ, fI, fR) H locs) (hL : a ∈ L) (hk : K a = 0) {v : Nat} (hv : fR a 0 = some v) (hlink : (Cond.fieldLink own index "DotStores$Dots" "replica" "[I").before args s = true) (hdg : decode cc pc = .ok (.getfield index, 3))
    (kk : W p l e R s m args below meth c H locs cells slots Q (F0 m (pc + 3) ls (.ref v :: rest))) : W p l e R s m args below meth c H locs cells slots Q (F0 m pc ls (.ref a :: rest)) := by
  obtain ⟨k0, h0⟩ := va_pl_get (X := []) (f := g_F G K n rI rJ rQ fI fR) hL
  exact va_get (D := G.1) (ci := 0) (v := .ref v) (C := RX0) (T := TX0) (N := 7) hx hb hts hin hown hK hG.1 k0 (h0.trans (congrArg (fun e => some (a, e)) (g_k0 G hk))) rfl 0 (by decide) hlink (fun _ h9 => h9) (congrArg (fun o => some (va_rf o)) hv) hdg kk
theorem w_Dots_replica (hx : p.tables.exec = Jvm.exec) (hb : c.code = cc) {index : Nat} {Ts : List Cond} (hts : ∀ w ∈ Ts, w.before args s = true) (hin : ∀ w ∈ wsX00, w ∈ Ts) (hown : s.vm.findClass RX0 = some m.cls) (hK : g_K G s) (hG : gw G base H0 (L, K, n, rI, rJ, rQ, fI, fR) H locs) (hL : a ∈ L) (hk : K a = 0) {x : Nat} (hinit : meth.name = "<init>") (hlink : (Cond.fieldLink RX0 index "DotStores$Dots" "replica" "[I").before args s = true) (hdg : decode cc pc = .ok (.putfield index, 3))
    (kk : ∀ (H1 : Heap) (locs1 : List Loc), gw G base H0 (L, K, n, rI, rJ, rQ, fI, g_up fR a 0 (some x)) H1 locs1 → W p l e R s m args below meth c H1 locs1 cells slots Q (F0 m (pc + 3) ls rest)) : W p l e R s m args below meth c H locs cells slots Q (F0 m pc ls (.ref x :: .ref a :: rest)) := by
  obtain ⟨k0, h0⟩ := va_pl_get (X := []) (f := g_F G K n rI rJ rQ fI fR) hL
  refine va_putF (D := G.1) (ci := 0) (v := .ref x) (C := RX0) (T := TX0) (N := 7) hx hb hts hin tyX0 tyX0_ok nmX0 hown hK hG.1 hG.2.1 hG.2.2.1 k0 (h0.trans (congrArg (fun e => some (a, e)) (g_k0 G hk))) rfl 0 (by decide) hlink (fun _ h9 => h9) rfl hinit rfl (tyX0_ok 0 (by decide)) rfl rfl (by simp) hdg (fun H1 locs1 h1 h2 h3 => kk H1 locs1 ?_)
  exact g_set hG.2.2.2 hG.2.1 hL h0 (g_u_Dots_replica G hk x) h1 h2 h3
theorem r_Dots_number (hx : p.tables.exec = Jvm.exec) (hb : c.code = cc) {own : String} {index : Nat} {Ts : List Cond} (hts : ∀ w ∈ Ts, w.before args s = true) (hin : ∀ w ∈ wsX00, w ∈ Ts) (hown : s.vm.findClass own = some m.cls) (hK : g_K G s) (hG : gw G base H0 (L, K, n, rI, rJ, rQ, fI, fR) H locs) (hL : a ∈ L) (hk : K a = 0) {v : Nat} (hv : fR a 1 = some v) (hlink : (Cond.fieldLink own index "DotStores$Dots" "number" "[I").before args s = true) (hdg : decode cc pc = .ok (.getfield index, 3))
    (kk : W p l e R s m args below meth c H locs cells slots Q (F0 m (pc + 3) ls (.ref v :: rest))) : W p l e R s m args below meth c H locs cells slots Q (F0 m pc ls (.ref a :: rest)) := by
  obtain ⟨k0, h0⟩ := va_pl_get (X := []) (f := g_F G K n rI rJ rQ fI fR) hL
  exact va_get (D := G.1) (ci := 0) (v := .ref v) (C := RX0) (T := TX0) (N := 7) hx hb hts hin hown hK hG.1 k0 (h0.trans (congrArg (fun e => some (a, e)) (g_k0 G hk))) rfl 1 (by decide) hlink (fun _ h9 => h9) (congrArg (fun o => some (va_rf o)) hv) hdg kk
theorem w_Dots_number (hx : p.tables.exec = Jvm.exec) (hb : c.code = cc) {index : Nat} {Ts : List Cond} (hts : ∀ w ∈ Ts, w.before args s = true) (hin : ∀ w ∈ wsX00, w ∈ Ts) (hown : s.vm.findClass RX0 = some m.cls) (hK : g_K G s) (hG : gw G base H0 (L, K, n, rI, rJ, rQ, fI, fR) H locs) (hL : a ∈ L) (hk : K a = 0) {x : Nat} (hinit : meth.name = "<init>") (hlink : (Cond.fieldLink RX0 index "DotStores$Dots" "number" "[I").before args s = true) (hdg : decode cc pc = .ok (.putfield index, 3))
    (kk : ∀ (H1 : Heap) (locs1 : List Loc), gw G base H0 (L, K, n, rI, rJ, rQ, fI, g_up fR a 1 (some x)) H1 locs1 → W p l e R s m args below meth c H1 locs1 cells slots Q (F0 m (pc + 3) ls rest)) : W p l e R s m args below meth c H locs cells slots Q (F0 m pc ls (.ref x :: .ref a :: rest)) := by
  obtain ⟨k0, h0⟩ := va_pl_get (X := []) (f := g_F G K n rI rJ rQ fI fR) hL
  refine va_putF (D := G.1) (ci := 0) (v := .ref x) (C := RX0) (T := TX0) (N := 7) hx hb hts hin tyX0 tyX0_ok nmX0 hown hK hG.1 hG.2.1 hG.2.2.1 k0 (h0.trans (congrArg (fun e => some (a, e)) (g_k0 G hk))) rfl 1 (by decide) hlink (fun _ h9 => h9) rfl hinit rfl (tyX0_ok 1 (by decide)) rfl rfl (by simp) hdg (fun H1 locs1 h1 h2 h3 => kk H1 locs1 ?_)
  exact g_set hG.2.2.2 hG.2.1 hL h0 (g_u_Dots_number G hk x) h1 h2 h3
theorem r_Dots_key (hx : p.tables.exec = Jvm.exec) (hb : c.code = cc) {own : String} {index : Nat} {Ts : List Cond} (hts : ∀ w ∈ Ts, w.before args s = true) (hin : ∀ w ∈ wsX00, w ∈ Ts) (hown : s.vm.findClass own = some m.cls) (hK : g_K G s) (hG : gw G base H0 (L, K, n, rI, rJ, rQ, fI, fR) H locs) (hL : a ∈ L) (hk : K a = 0) {v : Nat} (hv : fR a 2 = some v) (hlink : (Cond.fieldLink own index "DotStores$Dots" "key" "[I").before args s = true) (hdg : decode cc pc = .ok (.getfield index, 3))
    (kk : W p l e R s m args below meth c H locs cells slots Q (F0 m (pc + 3) ls (.ref v :: rest))) : W p l e R s m args below meth c H locs cells slots Q (F0 m pc ls (.ref a :: rest)) := by
  obtain ⟨k0, h0⟩ := va_pl_get (X := []) (f := g_F G K n rI rJ rQ fI fR) hL
  exact va_get (D := G.1) (ci := 0) (v := .ref v) (C := RX0) (T := TX0) (N := 7) hx hb hts hin hown hK hG.1 k0 (h0.trans (congrArg (fun e => some (a, e)) (g_k0 G hk))) rfl 2 (by decide) hlink (fun _ h9 => h9) (congrArg (fun o => some (va_rf o)) hv) hdg kk
theorem w_Dots_key (hx : p.tables.exec = Jvm.exec) (hb : c.code = cc) {index : Nat} {Ts : List Cond} (hts : ∀ w ∈ Ts, w.before args s = true) (hin : ∀ w ∈ wsX00, w ∈ Ts) (hown : s.vm.findClass RX0 = some m.cls) (hK : g_K G s) (hG : gw G base H0 (L, K, n, rI, rJ, rQ, fI, fR) H locs) (hL : a ∈ L) (hk : K a = 0) {x : Nat} (hinit : meth.name = "<init>") (hlink : (Cond.fieldLink RX0 index "DotStores$Dots" "key" "[I").before args s = true) (hdg : decode cc pc = .ok (.putfield index, 3))
    (kk : ∀ (H1 : Heap) (locs1 : List Loc), gw G base H0 (L, K, n, rI, rJ, rQ, fI, g_up fR a 2 (some x)) H1 locs1 → W p l e R s m args below meth c H1 locs1 cells slots Q (F0 m (pc + 3) ls rest)) : W p l e R s m args below meth c H locs cells slots Q (F0 m pc ls (.ref x :: .ref a :: rest)) := by
  obtain ⟨k0, h0⟩ := va_pl_get (X := []) (f := g_F G K n rI rJ rQ fI fR) hL
  refine va_putF (D := G.1) (ci := 0) (v := .ref x) (C := RX0) (T := TX0) (N := 7) hx hb hts hin tyX0 tyX0_ok nmX0 hown hK hG.1 hG.2.1 hG.2.2.1 k0 (h0.trans (congrArg (fun e => some (a, e)) (g_k0 G hk))) rfl 2 (by decide) hlink (fun _ h9 => h9) rfl hinit rfl (tyX0_ok 2 (by decide)) rfl rfl (by simp) hdg (fun H1 locs1 h1 h2 h3 => kk H1 locs1 ?_)
  exact g_set hG.2.2.2 hG.2.1 hL h0 (g_u_Dots_key G hk x) h1 h2 h3
theorem r_Dots_part (hx : p.tables.exec = Jvm.exec) (hb : c.code = cc) {own : String} {index : Nat} {Ts : List Cond} (hts : ∀ w ∈ Ts, w.before args s = true) (hin : ∀ w ∈ wsX00, w ∈ Ts) (hown : s.vm.findClass own = some m.cls) (hK : g_K G s) (hG : gw G base H0 (L, K, n, rI, rJ, rQ, fI, fR) H locs) (hL : a ∈ L) (hk : K a = 0) {v : Nat} (hv : fR a 3 = some v) (hlink : (Cond.fieldLink own index "DotStores$Dots" "part" "[I").before args s = true) (hdg : decode cc pc = .ok (.getfield index, 3))
    (kk : W p l e R s m args below meth c H locs cells slots Q (F0 m (pc + 3) ls (.ref v :: rest))) : W p l e R s m args below meth c H locs cells slots Q (F0 m pc ls (.ref a :: rest)) := by
  obtain ⟨k0, h0⟩ := va_pl_get (X := []) (f := g_F G K n rI rJ rQ fI fR) hL
  exact va_get (D := G.1) (ci := 0) (v := .ref v) (C := RX0) (T := TX0) (N := 7) hx hb hts hin hown hK hG.1 k0 (h0.trans (congrArg (fun e => some (a, e)) (g_k0 G hk))) rfl 3 (by decide) hlink (fun _ h9 => h9) (congrArg (fun o => some (va_rf o)) hv) hdg kk
theorem w_Dots_part (hx : p.tables.exec = Jvm.exec) (hb : c.code = cc) {index : Nat} {Ts : List Cond} (hts : ∀ w ∈ Ts, w.before args s = true) (hin : ∀ w ∈ wsX00, w ∈ Ts) (hown : s.vm.findClass RX0 = some m.cls) (hK : g_K G s) (hG : gw G base H0 (L, K, n, rI, rJ, rQ, fI, fR) H locs) (hL : a ∈ L) (hk : K a = 0) {x : Nat} (hinit : meth.name = "<init>") (hlink : (Cond.fieldLink RX0 index "DotStores$Dots" "part" "[I").before args s = true) (hdg : decode cc pc = .ok (.putfield index, 3))
    (kk : ∀ (H1 : Heap) (locs1 : List Loc), gw G base H0 (L, K, n, rI, rJ, rQ, fI, g_up fR a 3 (some x)) H1 locs1 → W p l e R s m args below meth c H1 locs1 cells slots Q (F0 m (pc + 3) ls rest)) : W p l e R s m args below meth c H locs cells slots Q (F0 m pc ls (.ref x :: .ref a :: rest)) := by
  obtain ⟨k0, h0⟩ := va_pl_get (X := []) (f := g_F G K n rI rJ rQ fI fR) hL
  refine va_putF (D := G.1) (ci := 0) (v := .ref x) (C := RX0) (T := TX0) (N := 7) hx hb hts hin tyX0 tyX0_ok nmX0 hown hK hG.1 hG.2.1 hG.2.2.1 k0 (h0.trans (congrArg (fun e => some (a, e)) (g_k0 G hk))) rfl 3 (by decide) hlink (fun _ h9 => h9) rfl hinit rfl (tyX0_ok 3 (by decide)) rfl rfl (by simp) hdg (fun H1 locs1 h1 h2 h3 => kk H1 locs1 ?_)
  exact g_set hG.2.2.2 hG.2.1 hL h0 (g_u_Dots_part G hk x) h1 h2 h3
theorem r_Dots_value (hx : p.tables.exec = Jvm.exec) (hb : c.code = cc) {own : String} {index : Nat} {Ts : List Cond} (hts : ∀ w ∈ Ts, w.before args s = true) (hin : ∀ w ∈ wsX00, w ∈ Ts) (hown : s.vm.findClass own = some m.cls) (hK : g_K G s) (hG : gw G base H0 (L, K, n, rI, rJ, rQ, fI, fR) H locs) (hL : a ∈ L) (hk : K a = 0) {v : Nat} (hv : fR a 4 = some v) (hlink : (Cond.fieldLink own index "DotStores$Dots" "value" "[J").before args s = true) (hdg : decode cc pc = .ok (.getfield index, 3))
    (kk : W p l e R s m args below meth c H locs cells slots Q (F0 m (pc + 3) ls (.ref v :: rest))) : W p l e R s m args below meth c H locs cells slots Q (F0 m pc ls (.ref a :: rest)) := by
  obtain ⟨k0, h0⟩ := va_pl_get (X := []) (f := g_F G K n rI rJ rQ fI fR) hL
  exact va_get (D := G.1) (ci := 0) (v := .ref v) (C := RX0) (T := TX0) (N := 7) hx hb hts hin hown hK hG.1 k0 (h0.trans (congrArg (fun e => some (a, e)) (g_k0 G hk))) rfl 4 (by decide) hlink (fun _ h9 => h9) (congrArg (fun o => some (va_rf o)) hv) hdg kk
theorem w_Dots_value (hx : p.tables.exec = Jvm.exec) (hb : c.code = cc) {index : Nat} {Ts : List Cond} (hts : ∀ w ∈ Ts, w.before args s = true) (hin : ∀ w ∈ wsX00, w ∈ Ts) (hown : s.vm.findClass RX0 = some m.cls) (hK : g_K G s) (hG : gw G base H0 (L, K, n, rI, rJ, rQ, fI, fR) H locs) (hL : a ∈ L) (hk : K a = 0) {x : Nat} (hinit : meth.name = "<init>") (hlink : (Cond.fieldLink RX0 index "DotStores$Dots" "value" "[J").before args s = true) (hdg : decode cc pc = .ok (.putfield index, 3))
    (kk : ∀ (H1 : Heap) (locs1 : List Loc), gw G base H0 (L, K, n, rI, rJ, rQ, fI, g_up fR a 4 (some x)) H1 locs1 → W p l e R s m args below meth c H1 locs1 cells slots Q (F0 m (pc + 3) ls rest)) : W p l e R s m args below meth c H locs cells slots Q (F0 m pc ls (.ref x :: .ref a :: rest)) := by
  obtain ⟨k0, h0⟩ := va_pl_get (X := []) (f := g_F G K n rI rJ rQ fI fR) hL
  refine va_putF (D := G.1) (ci := 0) (v := .ref x) (C := RX0) (T := TX0) (N := 7) hx hb hts hin tyX0 tyX0_ok nmX0 hown hK hG.1 hG.2.1 hG.2.2.1 k0 (h0.trans (congrArg (fun e => some (a, e)) (g_k0 G hk))) rfl 4 (by decide) hlink (fun _ h9 => h9) rfl hinit rfl (tyX0_ok 4 (by decide)) rfl rfl (by simp) hdg (fun H1 locs1 h1 h2 h3 => kk H1 locs1 ?_)
  exact g_set hG.2.2.2 hG.2.1 hL h0 (g_u_Dots_value G hk x) h1 h2 h3
theorem r_Dots_greatest (hx : p.tables.exec = Jvm.exec) (hb : c.code = cc) {own : String} {index : Nat} {Ts : List Cond} (hts : ∀ w ∈ Ts, w.before args s = true) (hin : ∀ w ∈ wsX00, w ∈ Ts) (hown : s.vm.findClass own = some m.cls) (hK : g_K G s) (hG : gw G base H0 (L, K, n, rI, rJ, rQ, fI, fR) H locs) (hL : a ∈ L) (hk : K a = 0) {v : Nat} (hv : fR a 5 = some v) (hlink : (Cond.fieldLink own index "DotStores$Dots" "greatest" "[I").before args s = true) (hdg : decode cc pc = .ok (.getfield index, 3))
    (kk : W p l e R s m args below meth c H locs cells slots Q (F0 m (pc + 3) ls (.ref v :: rest))) : W p l e R s m args below meth c H locs cells slots Q (F0 m pc ls (.ref a :: rest)) := by
  obtain ⟨k0, h0⟩ := va_pl_get (X := []) (f := g_F G K n rI rJ rQ fI fR) hL
  exact va_get (D := G.1) (ci := 0) (v := .ref v) (C := RX0) (T := TX0) (N := 7) hx hb hts hin hown hK hG.1 k0 (h0.trans (congrArg (fun e => some (a, e)) (g_k0 G hk))) rfl 5 (by decide) hlink (fun _ h9 => h9) (congrArg (fun o => some (va_rf o)) hv) hdg kk
theorem w_Dots_greatest (hx : p.tables.exec = Jvm.exec) (hb : c.code = cc) {index : Nat} {Ts : List Cond} (hts : ∀ w ∈ Ts, w.before args s = true) (hin : ∀ w ∈ wsX00, w ∈ Ts) (hown : s.vm.findClass RX0 = some m.cls) (hK : g_K G s) (hG : gw G base H0 (L, K, n, rI, rJ, rQ, fI, fR) H locs) (hL : a ∈ L) (hk : K a = 0) {x : Nat} (hinit : meth.name = "<init>") (hlink : (Cond.fieldLink RX0 index "DotStores$Dots" "greatest" "[I").before args s = true) (hdg : decode cc pc = .ok (.putfield index, 3))
    (kk : ∀ (H1 : Heap) (locs1 : List Loc), gw G base H0 (L, K, n, rI, rJ, rQ, fI, g_up fR a 5 (some x)) H1 locs1 → W p l e R s m args below meth c H1 locs1 cells slots Q (F0 m (pc + 3) ls rest)) : W p l e R s m args below meth c H locs cells slots Q (F0 m pc ls (.ref x :: .ref a :: rest)) := by
  obtain ⟨k0, h0⟩ := va_pl_get (X := []) (f := g_F G K n rI rJ rQ fI fR) hL
  refine va_putF (D := G.1) (ci := 0) (v := .ref x) (C := RX0) (T := TX0) (N := 7) hx hb hts hin tyX0 tyX0_ok nmX0 hown hK hG.1 hG.2.1 hG.2.2.1 k0 (h0.trans (congrArg (fun e => some (a, e)) (g_k0 G hk))) rfl 5 (by decide) hlink (fun _ h9 => h9) rfl hinit rfl (tyX0_ok 5 (by decide)) rfl rfl (by simp) hdg (fun H1 locs1 h1 h2 h3 => kk H1 locs1 ?_)
  exact g_set hG.2.2.2 hG.2.1 hL h0 (g_u_Dots_greatest G hk x) h1 h2 h3
theorem r_Dots_count (hx : p.tables.exec = Jvm.exec) (hb : c.code = cc) {own : String} {index : Nat} {Ts : List Cond} (hts : ∀ w ∈ Ts, w.before args s = true) (hin : ∀ w ∈ wsX00, w ∈ Ts) (hown : s.vm.findClass own = some m.cls) (hK : g_K G s) (hG : gw G base H0 (L, K, n, rI, rJ, rQ, fI, fR) H locs) (hL : a ∈ L) (hk : K a = 0) (hlink : (Cond.fieldLink own index "DotStores$Dots" "count" "I").before args s = true) (hdg : decode cc pc = .ok (.getfield index, 3))
    (kk : W p l e R s m args below meth c H locs cells slots Q (F0 m (pc + 3) ls (.int (fI a 6) :: rest))) : W p l e R s m args below meth c H locs cells slots Q (F0 m pc ls (.ref a :: rest)) := by
  obtain ⟨k0, h0⟩ := va_pl_get (X := []) (f := g_F G K n rI rJ rQ fI fR) hL
  exact va_get (D := G.1) (ci := 0) (v := .int (fI a 6)) (C := RX0) (T := TX0) (N := 7) hx hb hts hin hown hK hG.1 k0 (h0.trans (congrArg (fun e => some (a, e)) (g_k0 G hk))) rfl 6 (by decide) hlink (fun _ h9 => h9) rfl hdg kk
theorem w_Dots_count (hx : p.tables.exec = Jvm.exec) (hb : c.code = cc) {own : String} {index : Nat} {Ts : List Cond} (hts : ∀ w ∈ Ts, w.before args s = true) (hin : ∀ w ∈ wsX00, w ∈ Ts) (hown : s.vm.findClass own = some m.cls) (hK : g_K G s) (hG : gw G base H0 (L, K, n, rI, rJ, rQ, fI, fR) H locs) (hL : a ∈ L) (hk : K a = 0) {x : Int32} (hlink : (Cond.fieldLink own index "DotStores$Dots" "count" "I").before args s = true) (hdg : decode cc pc = .ok (.putfield index, 3))
    (kk : ∀ (H1 : Heap) (locs1 : List Loc), gw G base H0 (L, K, n, rI, rJ, rQ, g_up fI a 6 x, fR) H1 locs1 → W p l e R s m args below meth c H1 locs1 cells slots Q (F0 m (pc + 3) ls rest)) : W p l e R s m args below meth c H locs cells slots Q (F0 m pc ls (.int x :: .ref a :: rest)) := by
  obtain ⟨k0, h0⟩ := va_pl_get (X := []) (f := g_F G K n rI rJ rQ fI fR) hL
  refine va_put (D := G.1) (ci := 0) (v := .int x) (C := RX0) (T := TX0) (N := 7) hx hb hts hin tyX0 tyX0_ok nmX0 hown hK hG.1 hG.2.1 hG.2.2.1 k0 (h0.trans (congrArg (fun e => some (a, e)) (g_k0 G hk))) rfl 6 (by decide) hlink (fun _ h9 => h9) rfl (tyX0_ok 6 (by decide)) rfl rfl (by simp) hdg (fun H1 locs1 h1 h2 h3 => kk H1 locs1 ?_)
  exact g_set hG.2.2.2 hG.2.1 hL h0 (g_u_Dots_count G hk x) h1 h2 h3
theorem r_State_seen (hx : p.tables.exec = Jvm.exec) (hb : c.code = cc) {own : String} {index : Nat} {Ts : List Cond} (hts : ∀ w ∈ Ts, w.before args s = true) (hin : ∀ w ∈ wsX10, w ∈ Ts) (hown : s.vm.findClass own = some m.cls) (hK : g_K G s) (hG : gw G base H0 (L, K, n, rI, rJ, rQ, fI, fR) H locs) (hL : a ∈ L) (hk : K a = 1) {v : Nat} (hv : fR a 0 = some v) (hlink : (Cond.fieldLink own index "DotStores$State" "seen" "[J").before args s = true) (hdg : decode cc pc = .ok (.getfield index, 3))
    (kk : W p l e R s m args below meth c H locs cells slots Q (F0 m (pc + 3) ls (.ref v :: rest))) : W p l e R s m args below meth c H locs cells slots Q (F0 m pc ls (.ref a :: rest)) := by
  obtain ⟨k0, h0⟩ := va_pl_get (X := []) (f := g_F G K n rI rJ rQ fI fR) hL
  exact va_get (D := G.1) (ci := 1) (v := .ref v) (C := RX1) (T := TX1) (N := 5) hx hb hts hin hown hK hG.1 k0 (h0.trans (congrArg (fun e => some (a, e)) (g_k1 G hk))) rfl 0 (by decide) hlink (fun _ h9 => h9) (congrArg (fun o => some (va_rf o)) hv) hdg kk
theorem w_State_seen (hx : p.tables.exec = Jvm.exec) (hb : c.code = cc) {index : Nat} {Ts : List Cond} (hts : ∀ w ∈ Ts, w.before args s = true) (hin : ∀ w ∈ wsX10, w ∈ Ts) (hown : s.vm.findClass RX1 = some m.cls) (hK : g_K G s) (hG : gw G base H0 (L, K, n, rI, rJ, rQ, fI, fR) H locs) (hL : a ∈ L) (hk : K a = 1) {x : Nat} (hinit : meth.name = "<init>") (hlink : (Cond.fieldLink RX1 index "DotStores$State" "seen" "[J").before args s = true) (hdg : decode cc pc = .ok (.putfield index, 3))
    (kk : ∀ (H1 : Heap) (locs1 : List Loc), gw G base H0 (L, K, n, rI, rJ, rQ, fI, g_up fR a 0 (some x)) H1 locs1 → W p l e R s m args below meth c H1 locs1 cells slots Q (F0 m (pc + 3) ls rest)) : W p l e R s m args below meth c H locs cells slots Q (F0 m pc ls (.ref x :: .ref a :: rest)) := by
  obtain ⟨k0, h0⟩ := va_pl_get (X := []) (f := g_F G K n rI rJ rQ fI fR) hL
  refine va_putF (D := G.1) (ci := 1) (v := .ref x) (C := RX1) (T := TX1) (N := 5) hx hb hts hin tyX1 tyX1_ok nmX1 hown hK hG.1 hG.2.1 hG.2.2.1 k0 (h0.trans (congrArg (fun e => some (a, e)) (g_k1 G hk))) rfl 0 (by decide) hlink (fun _ h9 => h9) rfl hinit rfl (tyX1_ok 0 (by decide)) rfl rfl (by simp) hdg (fun H1 locs1 h1 h2 h3 => kk H1 locs1 ?_)
  exact g_set hG.2.2.2 hG.2.1 hL h0 (g_u_State_seen G hk x) h1 h2 h3
theorem r_State_live (hx : p.tables.exec = Jvm.exec) (hb : c.code = cc) {own : String} {index : Nat} {Ts : List Cond} (hts : ∀ w ∈ Ts, w.before args s = true) (hin : ∀ w ∈ wsX10, w ∈ Ts) (hown : s.vm.findClass own = some m.cls) (hK : g_K G s) (hG : gw G base H0 (L, K, n, rI, rJ, rQ, fI, fR) H locs) (hL : a ∈ L) (hk : K a = 1) {v : Nat} (hv : fR a 1 = some v) (hlink : (Cond.fieldLink own index "DotStores$State" "live" "[J").before args s = true) (hdg : decode cc pc = .ok (.getfield index, 3))
    (kk : W p l e R s m args below meth c H locs cells slots Q (F0 m (pc + 3) ls (.ref v :: rest))) : W p l e R s m args below meth c H locs cells slots Q (F0 m pc ls (.ref a :: rest)) := by
  obtain ⟨k0, h0⟩ := va_pl_get (X := []) (f := g_F G K n rI rJ rQ fI fR) hL
  exact va_get (D := G.1) (ci := 1) (v := .ref v) (C := RX1) (T := TX1) (N := 5) hx hb hts hin hown hK hG.1 k0 (h0.trans (congrArg (fun e => some (a, e)) (g_k1 G hk))) rfl 1 (by decide) hlink (fun _ h9 => h9) (congrArg (fun o => some (va_rf o)) hv) hdg kk
theorem w_State_live (hx : p.tables.exec = Jvm.exec) (hb : c.code = cc) {index : Nat} {Ts : List Cond} (hts : ∀ w ∈ Ts, w.before args s = true) (hin : ∀ w ∈ wsX10, w ∈ Ts) (hown : s.vm.findClass RX1 = some m.cls) (hK : g_K G s) (hG : gw G base H0 (L, K, n, rI, rJ, rQ, fI, fR) H locs) (hL : a ∈ L) (hk : K a = 1) {x : Nat} (hinit : meth.name = "<init>") (hlink : (Cond.fieldLink RX1 index "DotStores$State" "live" "[J").before args s = true) (hdg : decode cc pc = .ok (.putfield index, 3))
    (kk : ∀ (H1 : Heap) (locs1 : List Loc), gw G base H0 (L, K, n, rI, rJ, rQ, fI, g_up fR a 1 (some x)) H1 locs1 → W p l e R s m args below meth c H1 locs1 cells slots Q (F0 m (pc + 3) ls rest)) : W p l e R s m args below meth c H locs cells slots Q (F0 m pc ls (.ref x :: .ref a :: rest)) := by
  obtain ⟨k0, h0⟩ := va_pl_get (X := []) (f := g_F G K n rI rJ rQ fI fR) hL
  refine va_putF (D := G.1) (ci := 1) (v := .ref x) (C := RX1) (T := TX1) (N := 5) hx hb hts hin tyX1 tyX1_ok nmX1 hown hK hG.1 hG.2.1 hG.2.2.1 k0 (h0.trans (congrArg (fun e => some (a, e)) (g_k1 G hk))) rfl 1 (by decide) hlink (fun _ h9 => h9) rfl hinit rfl (tyX1_ok 1 (by decide)) rfl rfl (by simp) hdg (fun H1 locs1 h1 h2 h3 => kk H1 locs1 ?_)
  exact g_set hG.2.2.2 hG.2.1 hL h0 (g_u_State_live G hk x) h1 h2 h3
theorem r_State_stamps (hx : p.tables.exec = Jvm.exec) (hb : c.code = cc) {own : String} {index : Nat} {Ts : List Cond} (hts : ∀ w ∈ Ts, w.before args s = true) (hin : ∀ w ∈ wsX10, w ∈ Ts) (hown : s.vm.findClass own = some m.cls) (hK : g_K G s) (hG : gw G base H0 (L, K, n, rI, rJ, rQ, fI, fR) H locs) (hL : a ∈ L) (hk : K a = 1) {v : Nat} (hv : fR a 2 = some v) (hlink : (Cond.fieldLink own index "DotStores$State" "stamps" "[I").before args s = true) (hdg : decode cc pc = .ok (.getfield index, 3))
    (kk : W p l e R s m args below meth c H locs cells slots Q (F0 m (pc + 3) ls (.ref v :: rest))) : W p l e R s m args below meth c H locs cells slots Q (F0 m pc ls (.ref a :: rest)) := by
  obtain ⟨k0, h0⟩ := va_pl_get (X := []) (f := g_F G K n rI rJ rQ fI fR) hL
  exact va_get (D := G.1) (ci := 1) (v := .ref v) (C := RX1) (T := TX1) (N := 5) hx hb hts hin hown hK hG.1 k0 (h0.trans (congrArg (fun e => some (a, e)) (g_k1 G hk))) rfl 2 (by decide) hlink (fun _ h9 => h9) (congrArg (fun o => some (va_rf o)) hv) hdg kk
theorem w_State_stamps (hx : p.tables.exec = Jvm.exec) (hb : c.code = cc) {index : Nat} {Ts : List Cond} (hts : ∀ w ∈ Ts, w.before args s = true) (hin : ∀ w ∈ wsX10, w ∈ Ts) (hown : s.vm.findClass RX1 = some m.cls) (hK : g_K G s) (hG : gw G base H0 (L, K, n, rI, rJ, rQ, fI, fR) H locs) (hL : a ∈ L) (hk : K a = 1) {x : Nat} (hinit : meth.name = "<init>") (hlink : (Cond.fieldLink RX1 index "DotStores$State" "stamps" "[I").before args s = true) (hdg : decode cc pc = .ok (.putfield index, 3))
    (kk : ∀ (H1 : Heap) (locs1 : List Loc), gw G base H0 (L, K, n, rI, rJ, rQ, fI, g_up fR a 2 (some x)) H1 locs1 → W p l e R s m args below meth c H1 locs1 cells slots Q (F0 m (pc + 3) ls rest)) : W p l e R s m args below meth c H locs cells slots Q (F0 m pc ls (.ref x :: .ref a :: rest)) := by
  obtain ⟨k0, h0⟩ := va_pl_get (X := []) (f := g_F G K n rI rJ rQ fI fR) hL
  refine va_putF (D := G.1) (ci := 1) (v := .ref x) (C := RX1) (T := TX1) (N := 5) hx hb hts hin tyX1 tyX1_ok nmX1 hown hK hG.1 hG.2.1 hG.2.2.1 k0 (h0.trans (congrArg (fun e => some (a, e)) (g_k1 G hk))) rfl 2 (by decide) hlink (fun _ h9 => h9) rfl hinit rfl (tyX1_ok 2 (by decide)) rfl rfl (by simp) hdg (fun H1 locs1 h1 h2 h3 => kk H1 locs1 ?_)
  exact g_set hG.2.2.2 hG.2.1 hL h0 (g_u_State_stamps G hk x) h1 h2 h3
theorem r_State_put (hx : p.tables.exec = Jvm.exec) (hb : c.code = cc) {own : String} {index : Nat} {Ts : List Cond} (hts : ∀ w ∈ Ts, w.before args s = true) (hin : ∀ w ∈ wsX10, w ∈ Ts) (hown : s.vm.findClass own = some m.cls) (hK : g_K G s) (hG : gw G base H0 (L, K, n, rI, rJ, rQ, fI, fR) H locs) (hL : a ∈ L) (hk : K a = 1) (hlink : (Cond.fieldLink own index "DotStores$State" "put" "I").before args s = true) (hdg : decode cc pc = .ok (.getfield index, 3))
    (kk : W p l e R s m args below meth c H locs cells slots Q (F0 m (pc + 3) ls (.int (fI a 3) :: rest))) : W p l e R s m args below meth c H locs cells slots Q (F0 m pc ls (.ref a :: rest)) := by
  obtain ⟨k0, h0⟩ := va_pl_get (X := []) (f := g_F G K n rI rJ rQ fI fR) hL
  exact va_get (D := G.1) (ci := 1) (v := .int (fI a 3)) (C := RX1) (T := TX1) (N := 5) hx hb hts hin hown hK hG.1 k0 (h0.trans (congrArg (fun e => some (a, e)) (g_k1 G hk))) rfl 3 (by decide) hlink (fun _ h9 => h9) rfl hdg kk
theorem w_State_put (hx : p.tables.exec = Jvm.exec) (hb : c.code = cc) {own : String} {index : Nat} {Ts : List Cond} (hts : ∀ w ∈ Ts, w.before args s = true) (hin : ∀ w ∈ wsX10, w ∈ Ts) (hown : s.vm.findClass own = some m.cls) (hK : g_K G s) (hG : gw G base H0 (L, K, n, rI, rJ, rQ, fI, fR) H locs) (hL : a ∈ L) (hk : K a = 1) {x : Int32} (hlink : (Cond.fieldLink own index "DotStores$State" "put" "I").before args s = true) (hdg : decode cc pc = .ok (.putfield index, 3))
    (kk : ∀ (H1 : Heap) (locs1 : List Loc), gw G base H0 (L, K, n, rI, rJ, rQ, g_up fI a 3 x, fR) H1 locs1 → W p l e R s m args below meth c H1 locs1 cells slots Q (F0 m (pc + 3) ls rest)) : W p l e R s m args below meth c H locs cells slots Q (F0 m pc ls (.int x :: .ref a :: rest)) := by
  obtain ⟨k0, h0⟩ := va_pl_get (X := []) (f := g_F G K n rI rJ rQ fI fR) hL
  refine va_put (D := G.1) (ci := 1) (v := .int x) (C := RX1) (T := TX1) (N := 5) hx hb hts hin tyX1 tyX1_ok nmX1 hown hK hG.1 hG.2.1 hG.2.2.1 k0 (h0.trans (congrArg (fun e => some (a, e)) (g_k1 G hk))) rfl 3 (by decide) hlink (fun _ h9 => h9) rfl (tyX1_ok 3 (by decide)) rfl rfl (by simp) hdg (fun H1 locs1 h1 h2 h3 => kk H1 locs1 ?_)
  exact g_set hG.2.2.2 hG.2.1 hL h0 (g_u_State_put G hk x) h1 h2 h3
theorem r_State_taken (hx : p.tables.exec = Jvm.exec) (hb : c.code = cc) {own : String} {index : Nat} {Ts : List Cond} (hts : ∀ w ∈ Ts, w.before args s = true) (hin : ∀ w ∈ wsX10, w ∈ Ts) (hown : s.vm.findClass own = some m.cls) (hK : g_K G s) (hG : gw G base H0 (L, K, n, rI, rJ, rQ, fI, fR) H locs) (hL : a ∈ L) (hk : K a = 1) (hlink : (Cond.fieldLink own index "DotStores$State" "taken" "I").before args s = true) (hdg : decode cc pc = .ok (.getfield index, 3))
    (kk : W p l e R s m args below meth c H locs cells slots Q (F0 m (pc + 3) ls (.int (fI a 4) :: rest))) : W p l e R s m args below meth c H locs cells slots Q (F0 m pc ls (.ref a :: rest)) := by
  obtain ⟨k0, h0⟩ := va_pl_get (X := []) (f := g_F G K n rI rJ rQ fI fR) hL
  exact va_get (D := G.1) (ci := 1) (v := .int (fI a 4)) (C := RX1) (T := TX1) (N := 5) hx hb hts hin hown hK hG.1 k0 (h0.trans (congrArg (fun e => some (a, e)) (g_k1 G hk))) rfl 4 (by decide) hlink (fun _ h9 => h9) rfl hdg kk
theorem w_State_taken (hx : p.tables.exec = Jvm.exec) (hb : c.code = cc) {own : String} {index : Nat} {Ts : List Cond} (hts : ∀ w ∈ Ts, w.before args s = true) (hin : ∀ w ∈ wsX10, w ∈ Ts) (hown : s.vm.findClass own = some m.cls) (hK : g_K G s) (hG : gw G base H0 (L, K, n, rI, rJ, rQ, fI, fR) H locs) (hL : a ∈ L) (hk : K a = 1) {x : Int32} (hlink : (Cond.fieldLink own index "DotStores$State" "taken" "I").before args s = true) (hdg : decode cc pc = .ok (.putfield index, 3))
    (kk : ∀ (H1 : Heap) (locs1 : List Loc), gw G base H0 (L, K, n, rI, rJ, rQ, g_up fI a 4 x, fR) H1 locs1 → W p l e R s m args below meth c H1 locs1 cells slots Q (F0 m (pc + 3) ls rest)) : W p l e R s m args below meth c H locs cells slots Q (F0 m pc ls (.int x :: .ref a :: rest)) := by
  obtain ⟨k0, h0⟩ := va_pl_get (X := []) (f := g_F G K n rI rJ rQ fI fR) hL
  refine va_put (D := G.1) (ci := 1) (v := .int x) (C := RX1) (T := TX1) (N := 5) hx hb hts hin tyX1 tyX1_ok nmX1 hown hK hG.1 hG.2.1 hG.2.2.1 k0 (h0.trans (congrArg (fun e => some (a, e)) (g_k1 G hk))) rfl 4 (by decide) hlink (fun _ h9 => h9) rfl (tyX1_ok 4 (by decide)) rfl rfl (by simp) hdg (fun H1 locs1 h1 h2 h3 => kk H1 locs1 ?_)
  exact g_set hG.2.2.2 hG.2.1 hL h0 (g_u_State_taken G hk x) h1 h2 h3
theorem r_Desk_replicas (hx : p.tables.exec = Jvm.exec) (hb : c.code = cc) {own : String} {index : Nat} {Ts : List Cond} (hts : ∀ w ∈ Ts, w.before args s = true) (hin : ∀ w ∈ wsX20, w ∈ Ts) (hown : s.vm.findClass own = some m.cls) (hK : g_K G s) (hG : gw G base H0 (L, K, n, rI, rJ, rQ, fI, fR) H locs) (hL : a ∈ L) (hk : K a = 2) {v : Nat} (hv : fR a 0 = some v) (hlink : (Cond.fieldLink own index "DotStores" "replicas" "[LDotStores$State;").before args s = true) (hdg : decode cc pc = .ok (.getfield index, 3))
    (kk : W p l e R s m args below meth c H locs cells slots Q (F0 m (pc + 3) ls (.ref v :: rest))) : W p l e R s m args below meth c H locs cells slots Q (F0 m pc ls (.ref a :: rest)) := by
  obtain ⟨k0, h0⟩ := va_pl_get (X := []) (f := g_F G K n rI rJ rQ fI fR) hL
  exact va_get (D := G.1) (ci := 2) (v := .ref v) (C := RX2) (T := TX2) (N := 6) hx hb hts hin hown hK hG.1 k0 (h0.trans (congrArg (fun e => some (a, e)) (g_k2 G hk))) rfl 0 (by decide) hlink (fun _ h9 => h9) (congrArg (fun o => some (va_rf o)) hv) hdg kk
theorem w_Desk_replicas (hx : p.tables.exec = Jvm.exec) (hb : c.code = cc) {index : Nat} {Ts : List Cond} (hts : ∀ w ∈ Ts, w.before args s = true) (hin : ∀ w ∈ wsX20, w ∈ Ts) (hown : s.vm.findClass RX2 = some m.cls) (hK : g_K G s) (hG : gw G base H0 (L, K, n, rI, rJ, rQ, fI, fR) H locs) (hL : a ∈ L) (hk : K a = 2) {x : Nat} (hinit : meth.name = "<init>") (hlink : (Cond.fieldLink RX2 index "DotStores" "replicas" "[LDotStores$State;").before args s = true) (hdg : decode cc pc = .ok (.putfield index, 3))
    (kk : ∀ (H1 : Heap) (locs1 : List Loc), gw G base H0 (L, K, n, rI, rJ, rQ, fI, g_up fR a 0 (some x)) H1 locs1 → W p l e R s m args below meth c H1 locs1 cells slots Q (F0 m (pc + 3) ls rest)) : W p l e R s m args below meth c H locs cells slots Q (F0 m pc ls (.ref x :: .ref a :: rest)) := by
  obtain ⟨k0, h0⟩ := va_pl_get (X := []) (f := g_F G K n rI rJ rQ fI fR) hL
  refine va_putF (D := G.1) (ci := 2) (v := .ref x) (C := RX2) (T := TX2) (N := 6) hx hb hts hin tyX2 tyX2_ok nmX2 hown hK hG.1 hG.2.1 hG.2.2.1 k0 (h0.trans (congrArg (fun e => some (a, e)) (g_k2 G hk))) rfl 0 (by decide) hlink (fun _ h9 => h9) rfl hinit rfl (tyX2_ok 0 (by decide)) rfl rfl (by simp) hdg (fun H1 locs1 h1 h2 h3 => kk H1 locs1 ?_)
  exact g_set hG.2.2.2 hG.2.1 hL h0 (g_u_Desk_replicas G hk x) h1 h2 h3
theorem r_Desk_made (hx : p.tables.exec = Jvm.exec) (hb : c.code = cc) {own : String} {index : Nat} {Ts : List Cond} (hts : ∀ w ∈ Ts, w.before args s = true) (hin : ∀ w ∈ wsX20, w ∈ Ts) (hown : s.vm.findClass own = some m.cls) (hK : g_K G s) (hG : gw G base H0 (L, K, n, rI, rJ, rQ, fI, fR) H locs) (hL : a ∈ L) (hk : K a = 2) {v : Nat} (hv : fR a 1 = some v) (hlink : (Cond.fieldLink own index "DotStores" "made" "[LDotStores$State;").before args s = true) (hdg : decode cc pc = .ok (.getfield index, 3))
    (kk : W p l e R s m args below meth c H locs cells slots Q (F0 m (pc + 3) ls (.ref v :: rest))) : W p l e R s m args below meth c H locs cells slots Q (F0 m pc ls (.ref a :: rest)) := by
  obtain ⟨k0, h0⟩ := va_pl_get (X := []) (f := g_F G K n rI rJ rQ fI fR) hL
  exact va_get (D := G.1) (ci := 2) (v := .ref v) (C := RX2) (T := TX2) (N := 6) hx hb hts hin hown hK hG.1 k0 (h0.trans (congrArg (fun e => some (a, e)) (g_k2 G hk))) rfl 1 (by decide) hlink (fun _ h9 => h9) (congrArg (fun o => some (va_rf o)) hv) hdg kk
theorem w_Desk_made (hx : p.tables.exec = Jvm.exec) (hb : c.code = cc) {index : Nat} {Ts : List Cond} (hts : ∀ w ∈ Ts, w.before args s = true) (hin : ∀ w ∈ wsX20, w ∈ Ts) (hown : s.vm.findClass RX2 = some m.cls) (hK : g_K G s) (hG : gw G base H0 (L, K, n, rI, rJ, rQ, fI, fR) H locs) (hL : a ∈ L) (hk : K a = 2) {x : Nat} (hinit : meth.name = "<init>") (hlink : (Cond.fieldLink RX2 index "DotStores" "made" "[LDotStores$State;").before args s = true) (hdg : decode cc pc = .ok (.putfield index, 3))
    (kk : ∀ (H1 : Heap) (locs1 : List Loc), gw G base H0 (L, K, n, rI, rJ, rQ, fI, g_up fR a 1 (some x)) H1 locs1 → W p l e R s m args below meth c H1 locs1 cells slots Q (F0 m (pc + 3) ls rest)) : W p l e R s m args below meth c H locs cells slots Q (F0 m pc ls (.ref x :: .ref a :: rest)) := by
  obtain ⟨k0, h0⟩ := va_pl_get (X := []) (f := g_F G K n rI rJ rQ fI fR) hL
  refine va_putF (D := G.1) (ci := 2) (v := .ref x) (C := RX2) (T := TX2) (N := 6) hx hb hts hin tyX2 tyX2_ok nmX2 hown hK hG.1 hG.2.1 hG.2.2.1 k0 (h0.trans (congrArg (fun e => some (a, e)) (g_k2 G hk))) rfl 1 (by decide) hlink (fun _ h9 => h9) rfl hinit rfl (tyX2_ok 1 (by decide)) rfl rfl (by simp) hdg (fun H1 locs1 h1 h2 h3 => kk H1 locs1 ?_)
  exact g_set hG.2.2.2 hG.2.1 hL h0 (g_u_Desk_made G hk x) h1 h2 h3
theorem r_Desk_dots (hx : p.tables.exec = Jvm.exec) (hb : c.code = cc) {own : String} {index : Nat} {Ts : List Cond} (hts : ∀ w ∈ Ts, w.before args s = true) (hin : ∀ w ∈ wsX20, w ∈ Ts) (hown : s.vm.findClass own = some m.cls) (hK : g_K G s) (hG : gw G base H0 (L, K, n, rI, rJ, rQ, fI, fR) H locs) (hL : a ∈ L) (hk : K a = 2) {v : Nat} (hv : fR a 2 = some v) (hlink : (Cond.fieldLink own index "DotStores" "dots" "LDotStores$Dots;").before args s = true) (hdg : decode cc pc = .ok (.getfield index, 3))
    (kk : W p l e R s m args below meth c H locs cells slots Q (F0 m (pc + 3) ls (.ref v :: rest))) : W p l e R s m args below meth c H locs cells slots Q (F0 m pc ls (.ref a :: rest)) := by
  obtain ⟨k0, h0⟩ := va_pl_get (X := []) (f := g_F G K n rI rJ rQ fI fR) hL
  exact va_get (D := G.1) (ci := 2) (v := .ref v) (C := RX2) (T := TX2) (N := 6) hx hb hts hin hown hK hG.1 k0 (h0.trans (congrArg (fun e => some (a, e)) (g_k2 G hk))) rfl 2 (by decide) hlink (fun _ h9 => h9) (congrArg (fun o => some (va_rf o)) hv) hdg kk
theorem w_Desk_dots (hx : p.tables.exec = Jvm.exec) (hb : c.code = cc) {index : Nat} {Ts : List Cond} (hts : ∀ w ∈ Ts, w.before args s = true) (hin : ∀ w ∈ wsX20, w ∈ Ts) (hown : s.vm.findClass RX2 = some m.cls) (hK : g_K G s) (hG : gw G base H0 (L, K, n, rI, rJ, rQ, fI, fR) H locs) (hL : a ∈ L) (hk : K a = 2) {x : Nat} (hinit : meth.name = "<init>") (hlink : (Cond.fieldLink RX2 index "DotStores" "dots" "LDotStores$Dots;").before args s = true) (hdg : decode cc pc = .ok (.putfield index, 3))
    (kk : ∀ (H1 : Heap) (locs1 : List Loc), gw G base H0 (L, K, n, rI, rJ, rQ, fI, g_up fR a 2 (some x)) H1 locs1 → W p l e R s m args below meth c H1 locs1 cells slots Q (F0 m (pc + 3) ls rest)) : W p l e R s m args below meth c H locs cells slots Q (F0 m pc ls (.ref x :: .ref a :: rest)) := by
  obtain ⟨k0, h0⟩ := va_pl_get (X := []) (f := g_F G K n rI rJ rQ fI fR) hL
  refine va_putF (D := G.1) (ci := 2) (v := .ref x) (C := RX2) (T := TX2) (N := 6) hx hb hts hin tyX2 tyX2_ok nmX2 hown hK hG.1 hG.2.1 hG.2.2.1 k0 (h0.trans (congrArg (fun e => some (a, e)) (g_k2 G hk))) rfl 2 (by decide) hlink (fun _ h9 => h9) rfl hinit rfl (tyX2_ok 2 (by decide)) rfl rfl (by simp) hdg (fun H1 locs1 h1 h2 h3 => kk H1 locs1 ?_)
  exact g_set hG.2.2.2 hG.2.1 hL h0 (g_u_Desk_dots G hk x) h1 h2 h3
theorem r_Desk_trial (hx : p.tables.exec = Jvm.exec) (hb : c.code = cc) {own : String} {index : Nat} {Ts : List Cond} (hts : ∀ w ∈ Ts, w.before args s = true) (hin : ∀ w ∈ wsX20, w ∈ Ts) (hown : s.vm.findClass own = some m.cls) (hK : g_K G s) (hG : gw G base H0 (L, K, n, rI, rJ, rQ, fI, fR) H locs) (hL : a ∈ L) (hk : K a = 2) {v : Nat} (hv : fR a 3 = some v) (hlink : (Cond.fieldLink own index "DotStores" "trial" "LDotStores$State;").before args s = true) (hdg : decode cc pc = .ok (.getfield index, 3))
    (kk : W p l e R s m args below meth c H locs cells slots Q (F0 m (pc + 3) ls (.ref v :: rest))) : W p l e R s m args below meth c H locs cells slots Q (F0 m pc ls (.ref a :: rest)) := by
  obtain ⟨k0, h0⟩ := va_pl_get (X := []) (f := g_F G K n rI rJ rQ fI fR) hL
  exact va_get (D := G.1) (ci := 2) (v := .ref v) (C := RX2) (T := TX2) (N := 6) hx hb hts hin hown hK hG.1 k0 (h0.trans (congrArg (fun e => some (a, e)) (g_k2 G hk))) rfl 3 (by decide) hlink (fun _ h9 => h9) (congrArg (fun o => some (va_rf o)) hv) hdg kk
theorem w_Desk_trial (hx : p.tables.exec = Jvm.exec) (hb : c.code = cc) {index : Nat} {Ts : List Cond} (hts : ∀ w ∈ Ts, w.before args s = true) (hin : ∀ w ∈ wsX20, w ∈ Ts) (hown : s.vm.findClass RX2 = some m.cls) (hK : g_K G s) (hG : gw G base H0 (L, K, n, rI, rJ, rQ, fI, fR) H locs) (hL : a ∈ L) (hk : K a = 2) {x : Nat} (hinit : meth.name = "<init>") (hlink : (Cond.fieldLink RX2 index "DotStores" "trial" "LDotStores$State;").before args s = true) (hdg : decode cc pc = .ok (.putfield index, 3))
    (kk : ∀ (H1 : Heap) (locs1 : List Loc), gw G base H0 (L, K, n, rI, rJ, rQ, fI, g_up fR a 3 (some x)) H1 locs1 → W p l e R s m args below meth c H1 locs1 cells slots Q (F0 m (pc + 3) ls rest)) : W p l e R s m args below meth c H locs cells slots Q (F0 m pc ls (.ref x :: .ref a :: rest)) := by
  obtain ⟨k0, h0⟩ := va_pl_get (X := []) (f := g_F G K n rI rJ rQ fI fR) hL
  refine va_putF (D := G.1) (ci := 2) (v := .ref x) (C := RX2) (T := TX2) (N := 6) hx hb hts hin tyX2 tyX2_ok nmX2 hown hK hG.1 hG.2.1 hG.2.2.1 k0 (h0.trans (congrArg (fun e => some (a, e)) (g_k2 G hk))) rfl 3 (by decide) hlink (fun _ h9 => h9) rfl hinit rfl (tyX2_ok 3 (by decide)) rfl rfl (by simp) hdg (fun H1 locs1 h1 h2 h3 => kk H1 locs1 ?_)
  exact g_set hG.2.2.2 hG.2.1 hL h0 (g_u_Desk_trial G hk x) h1 h2 h3
theorem r_Desk_ordered (hx : p.tables.exec = Jvm.exec) (hb : c.code = cc) {own : String} {index : Nat} {Ts : List Cond} (hts : ∀ w ∈ Ts, w.before args s = true) (hin : ∀ w ∈ wsX20, w ∈ Ts) (hown : s.vm.findClass own = some m.cls) (hK : g_K G s) (hG : gw G base H0 (L, K, n, rI, rJ, rQ, fI, fR) H locs) (hL : a ∈ L) (hk : K a = 2) {v : Nat} (hv : fR a 4 = some v) (hlink : (Cond.fieldLink own index "DotStores" "ordered" "[J").before args s = true) (hdg : decode cc pc = .ok (.getfield index, 3))
    (kk : W p l e R s m args below meth c H locs cells slots Q (F0 m (pc + 3) ls (.ref v :: rest))) : W p l e R s m args below meth c H locs cells slots Q (F0 m pc ls (.ref a :: rest)) := by
  obtain ⟨k0, h0⟩ := va_pl_get (X := []) (f := g_F G K n rI rJ rQ fI fR) hL
  exact va_get (D := G.1) (ci := 2) (v := .ref v) (C := RX2) (T := TX2) (N := 6) hx hb hts hin hown hK hG.1 k0 (h0.trans (congrArg (fun e => some (a, e)) (g_k2 G hk))) rfl 4 (by decide) hlink (fun _ h9 => h9) (congrArg (fun o => some (va_rf o)) hv) hdg kk
theorem w_Desk_ordered (hx : p.tables.exec = Jvm.exec) (hb : c.code = cc) {index : Nat} {Ts : List Cond} (hts : ∀ w ∈ Ts, w.before args s = true) (hin : ∀ w ∈ wsX20, w ∈ Ts) (hown : s.vm.findClass RX2 = some m.cls) (hK : g_K G s) (hG : gw G base H0 (L, K, n, rI, rJ, rQ, fI, fR) H locs) (hL : a ∈ L) (hk : K a = 2) {x : Nat} (hinit : meth.name = "<init>") (hlink : (Cond.fieldLink RX2 index "DotStores" "ordered" "[J").before args s = true) (hdg : decode cc pc = .ok (.putfield index, 3))
    (kk : ∀ (H1 : Heap) (locs1 : List Loc), gw G base H0 (L, K, n, rI, rJ, rQ, fI, g_up fR a 4 (some x)) H1 locs1 → W p l e R s m args below meth c H1 locs1 cells slots Q (F0 m (pc + 3) ls rest)) : W p l e R s m args below meth c H locs cells slots Q (F0 m pc ls (.ref x :: .ref a :: rest)) := by
  obtain ⟨k0, h0⟩ := va_pl_get (X := []) (f := g_F G K n rI rJ rQ fI fR) hL
  refine va_putF (D := G.1) (ci := 2) (v := .ref x) (C := RX2) (T := TX2) (N := 6) hx hb hts hin tyX2 tyX2_ok nmX2 hown hK hG.1 hG.2.1 hG.2.2.1 k0 (h0.trans (congrArg (fun e => some (a, e)) (g_k2 G hk))) rfl 4 (by decide) hlink (fun _ h9 => h9) rfl hinit rfl (tyX2_ok 4 (by decide)) rfl rfl (by simp) hdg (fun H1 locs1 h1 h2 h3 => kk H1 locs1 ?_)
  exact g_set hG.2.2.2 hG.2.1 hL h0 (g_u_Desk_ordered G hk x) h1 h2 h3
theorem r_Desk_madeCount (hx : p.tables.exec = Jvm.exec) (hb : c.code = cc) {own : String} {index : Nat} {Ts : List Cond} (hts : ∀ w ∈ Ts, w.before args s = true) (hin : ∀ w ∈ wsX20, w ∈ Ts) (hown : s.vm.findClass own = some m.cls) (hK : g_K G s) (hG : gw G base H0 (L, K, n, rI, rJ, rQ, fI, fR) H locs) (hL : a ∈ L) (hk : K a = 2) (hlink : (Cond.fieldLink own index "DotStores" "madeCount" "I").before args s = true) (hdg : decode cc pc = .ok (.getfield index, 3))
    (kk : W p l e R s m args below meth c H locs cells slots Q (F0 m (pc + 3) ls (.int (fI a 5) :: rest))) : W p l e R s m args below meth c H locs cells slots Q (F0 m pc ls (.ref a :: rest)) := by
  obtain ⟨k0, h0⟩ := va_pl_get (X := []) (f := g_F G K n rI rJ rQ fI fR) hL
  exact va_get (D := G.1) (ci := 2) (v := .int (fI a 5)) (C := RX2) (T := TX2) (N := 6) hx hb hts hin hown hK hG.1 k0 (h0.trans (congrArg (fun e => some (a, e)) (g_k2 G hk))) rfl 5 (by decide) hlink (fun _ h9 => h9) rfl hdg kk
theorem w_Desk_madeCount (hx : p.tables.exec = Jvm.exec) (hb : c.code = cc) {own : String} {index : Nat} {Ts : List Cond} (hts : ∀ w ∈ Ts, w.before args s = true) (hin : ∀ w ∈ wsX20, w ∈ Ts) (hown : s.vm.findClass own = some m.cls) (hK : g_K G s) (hG : gw G base H0 (L, K, n, rI, rJ, rQ, fI, fR) H locs) (hL : a ∈ L) (hk : K a = 2) {x : Int32} (hlink : (Cond.fieldLink own index "DotStores" "madeCount" "I").before args s = true) (hdg : decode cc pc = .ok (.putfield index, 3))
    (kk : ∀ (H1 : Heap) (locs1 : List Loc), gw G base H0 (L, K, n, rI, rJ, rQ, g_up fI a 5 x, fR) H1 locs1 → W p l e R s m args below meth c H1 locs1 cells slots Q (F0 m (pc + 3) ls rest)) : W p l e R s m args below meth c H locs cells slots Q (F0 m pc ls (.int x :: .ref a :: rest)) := by
  obtain ⟨k0, h0⟩ := va_pl_get (X := []) (f := g_F G K n rI rJ rQ fI fR) hL
  refine va_put (D := G.1) (ci := 2) (v := .int x) (C := RX2) (T := TX2) (N := 6) hx hb hts hin tyX2 tyX2_ok nmX2 hown hK hG.1 hG.2.1 hG.2.2.1 k0 (h0.trans (congrArg (fun e => some (a, e)) (g_k2 G hk))) rfl 5 (by decide) hlink (fun _ h9 => h9) rfl (tyX2_ok 5 (by decide)) rfl rfl (by simp) hdg (fun H1 locs1 h1 h2 h3 => kk H1 locs1 ?_)
  exact g_set hG.2.2.2 hG.2.1 hL h0 (g_u_Desk_madeCount G hk x) h1 h2 h3
theorem r_Model_thrown (hx : p.tables.exec = Jvm.exec) (hb : c.code = cc) {own : String} {index : Nat} {Ts : List Cond} (hts : ∀ w ∈ Ts, w.before args s = true) (hin : ∀ w ∈ wsX30, w ∈ Ts) (hown : s.vm.findClass own = some m.cls) (hK : g_K G s) (hG : gw G base H0 (L, K, n, rI, rJ, rQ, fI, fR) H locs) (hL : a ∈ L) (hk : K a = 3) (hlink : (Cond.fieldLink own index "DotStoresModel" "thrown" "I").before args s = true) (hdg : decode cc pc = .ok (.getfield index, 3))
    (kk : W p l e R s m args below meth c H locs cells slots Q (F0 m (pc + 3) ls (.int (fI a 0) :: rest))) : W p l e R s m args below meth c H locs cells slots Q (F0 m pc ls (.ref a :: rest)) := by
  obtain ⟨k0, h0⟩ := va_pl_get (X := []) (f := g_F G K n rI rJ rQ fI fR) hL
  exact va_get (D := G.1) (ci := 3) (v := .int (fI a 0)) (C := RX3) (T := TX3) (N := 14) hx hb hts hin hown hK hG.1 k0 (h0.trans (congrArg (fun e => some (a, e)) (g_k3 G hk))) rfl 0 (by decide) hlink (fun _ h9 => h9) rfl hdg kk
theorem w_Model_thrown (hx : p.tables.exec = Jvm.exec) (hb : c.code = cc) {own : String} {index : Nat} {Ts : List Cond} (hts : ∀ w ∈ Ts, w.before args s = true) (hin : ∀ w ∈ wsX30, w ∈ Ts) (hown : s.vm.findClass own = some m.cls) (hK : g_K G s) (hG : gw G base H0 (L, K, n, rI, rJ, rQ, fI, fR) H locs) (hL : a ∈ L) (hk : K a = 3) {x : Int32} (hlink : (Cond.fieldLink own index "DotStoresModel" "thrown" "I").before args s = true) (hdg : decode cc pc = .ok (.putfield index, 3))
    (kk : ∀ (H1 : Heap) (locs1 : List Loc), gw G base H0 (L, K, n, rI, rJ, rQ, g_up fI a 0 x, fR) H1 locs1 → W p l e R s m args below meth c H1 locs1 cells slots Q (F0 m (pc + 3) ls rest)) : W p l e R s m args below meth c H locs cells slots Q (F0 m pc ls (.int x :: .ref a :: rest)) := by
  obtain ⟨k0, h0⟩ := va_pl_get (X := []) (f := g_F G K n rI rJ rQ fI fR) hL
  refine va_put (D := G.1) (ci := 3) (v := .int x) (C := RX3) (T := TX3) (N := 14) hx hb hts hin tyX3 tyX3_ok nmX3 hown hK hG.1 hG.2.1 hG.2.2.1 k0 (h0.trans (congrArg (fun e => some (a, e)) (g_k3 G hk))) rfl 0 (by decide) hlink (fun _ h9 => h9) rfl (tyX3_ok 0 (by decide)) rfl rfl (by simp) hdg (fun H1 locs1 h1 h2 h3 => kk H1 locs1 ?_)
  exact g_set hG.2.2.2 hG.2.1 hL h0 (g_u_Model_thrown G hk x) h1 h2 h3
theorem r_Model_deltas (hx : p.tables.exec = Jvm.exec) (hb : c.code = cc) {own : String} {index : Nat} {Ts : List Cond} (hts : ∀ w ∈ Ts, w.before args s = true) (hin : ∀ w ∈ wsX30, w ∈ Ts) (hown : s.vm.findClass own = some m.cls) (hK : g_K G s) (hG : gw G base H0 (L, K, n, rI, rJ, rQ, fI, fR) H locs) (hL : a ∈ L) (hk : K a = 3) (hlink : (Cond.fieldLink own index "DotStoresModel" "deltas" "I").before args s = true) (hdg : decode cc pc = .ok (.getfield index, 3))
    (kk : W p l e R s m args below meth c H locs cells slots Q (F0 m (pc + 3) ls (.int (fI a 1) :: rest))) : W p l e R s m args below meth c H locs cells slots Q (F0 m pc ls (.ref a :: rest)) := by
  obtain ⟨k0, h0⟩ := va_pl_get (X := []) (f := g_F G K n rI rJ rQ fI fR) hL
  exact va_get (D := G.1) (ci := 3) (v := .int (fI a 1)) (C := RX3) (T := TX3) (N := 14) hx hb hts hin hown hK hG.1 k0 (h0.trans (congrArg (fun e => some (a, e)) (g_k3 G hk))) rfl 1 (by decide) hlink (fun _ h9 => h9) rfl hdg kk
theorem w_Model_deltas (hx : p.tables.exec = Jvm.exec) (hb : c.code = cc) {own : String} {index : Nat} {Ts : List Cond} (hts : ∀ w ∈ Ts, w.before args s = true) (hin : ∀ w ∈ wsX30, w ∈ Ts) (hown : s.vm.findClass own = some m.cls) (hK : g_K G s) (hG : gw G base H0 (L, K, n, rI, rJ, rQ, fI, fR) H locs) (hL : a ∈ L) (hk : K a = 3) {x : Int32} (hlink : (Cond.fieldLink own index "DotStoresModel" "deltas" "I").before args s = true) (hdg : decode cc pc = .ok (.putfield index, 3))
    (kk : ∀ (H1 : Heap) (locs1 : List Loc), gw G base H0 (L, K, n, rI, rJ, rQ, g_up fI a 1 x, fR) H1 locs1 → W p l e R s m args below meth c H1 locs1 cells slots Q (F0 m (pc + 3) ls rest)) : W p l e R s m args below meth c H locs cells slots Q (F0 m pc ls (.int x :: .ref a :: rest)) := by
  obtain ⟨k0, h0⟩ := va_pl_get (X := []) (f := g_F G K n rI rJ rQ fI fR) hL
  refine va_put (D := G.1) (ci := 3) (v := .int x) (C := RX3) (T := TX3) (N := 14) hx hb hts hin tyX3 tyX3_ok nmX3 hown hK hG.1 hG.2.1 hG.2.2.1 k0 (h0.trans (congrArg (fun e => some (a, e)) (g_k3 G hk))) rfl 1 (by decide) hlink (fun _ h9 => h9) rfl (tyX3_ok 1 (by decide)) rfl rfl (by simp) hdg (fun H1 locs1 h1 h2 h3 => kk H1 locs1 ?_)
  exact g_set hG.2.2.2 hG.2.1 hL h0 (g_u_Model_deltas G hk x) h1 h2 h3
theorem r_Model_seen (hx : p.tables.exec = Jvm.exec) (hb : c.code = cc) {own : String} {index : Nat} {Ts : List Cond} (hts : ∀ w ∈ Ts, w.before args s = true) (hin : ∀ w ∈ wsX30, w ∈ Ts) (hown : s.vm.findClass own = some m.cls) (hK : g_K G s) (hG : gw G base H0 (L, K, n, rI, rJ, rQ, fI, fR) H locs) (hL : a ∈ L) (hk : K a = 3) {v : Nat} (hv : fR a 2 = some v) (hlink : (Cond.fieldLink own index "DotStoresModel" "seen" "[J").before args s = true) (hdg : decode cc pc = .ok (.getfield index, 3))
    (kk : W p l e R s m args below meth c H locs cells slots Q (F0 m (pc + 3) ls (.ref v :: rest))) : W p l e R s m args below meth c H locs cells slots Q (F0 m pc ls (.ref a :: rest)) := by
  obtain ⟨k0, h0⟩ := va_pl_get (X := []) (f := g_F G K n rI rJ rQ fI fR) hL
  exact va_get (D := G.1) (ci := 3) (v := .ref v) (C := RX3) (T := TX3) (N := 14) hx hb hts hin hown hK hG.1 k0 (h0.trans (congrArg (fun e => some (a, e)) (g_k3 G hk))) rfl 2 (by decide) hlink (fun _ h9 => h9) (congrArg (fun o => some (va_rf o)) hv) hdg kk
theorem w_Model_seen (hx : p.tables.exec = Jvm.exec) (hb : c.code = cc) {index : Nat} {Ts : List Cond} (hts : ∀ w ∈ Ts, w.before args s = true) (hin : ∀ w ∈ wsX30, w ∈ Ts) (hown : s.vm.findClass RX3 = some m.cls) (hK : g_K G s) (hG : gw G base H0 (L, K, n, rI, rJ, rQ, fI, fR) H locs) (hL : a ∈ L) (hk : K a = 3) {x : Nat} (hinit : meth.name = "<init>") (hlink : (Cond.fieldLink RX3 index "DotStoresModel" "seen" "[J").before args s = true) (hdg : decode cc pc = .ok (.putfield index, 3))
    (kk : ∀ (H1 : Heap) (locs1 : List Loc), gw G base H0 (L, K, n, rI, rJ, rQ, fI, g_up fR a 2 (some x)) H1 locs1 → W p l e R s m args below meth c H1 locs1 cells slots Q (F0 m (pc + 3) ls rest)) : W p l e R s m args below meth c H locs cells slots Q (F0 m pc ls (.ref x :: .ref a :: rest)) := by
  obtain ⟨k0, h0⟩ := va_pl_get (X := []) (f := g_F G K n rI rJ rQ fI fR) hL
  refine va_putF (D := G.1) (ci := 3) (v := .ref x) (C := RX3) (T := TX3) (N := 14) hx hb hts hin tyX3 tyX3_ok nmX3 hown hK hG.1 hG.2.1 hG.2.2.1 k0 (h0.trans (congrArg (fun e => some (a, e)) (g_k3 G hk))) rfl 2 (by decide) hlink (fun _ h9 => h9) rfl hinit rfl (tyX3_ok 2 (by decide)) rfl rfl (by simp) hdg (fun H1 locs1 h1 h2 h3 => kk H1 locs1 ?_)
  exact g_set hG.2.2.2 hG.2.1 hL h0 (g_u_Model_seen G hk x) h1 h2 h3
theorem r_Model_live (hx : p.tables.exec = Jvm.exec) (hb : c.code = cc) {own : String} {index : Nat} {Ts : List Cond} (hts : ∀ w ∈ Ts, w.before args s = true) (hin : ∀ w ∈ wsX30, w ∈ Ts) (hown : s.vm.findClass own = some m.cls) (hK : g_K G s) (hG : gw G base H0 (L, K, n, rI, rJ, rQ, fI, fR) H locs) (hL : a ∈ L) (hk : K a = 3) {v : Nat} (hv : fR a 3 = some v) (hlink : (Cond.fieldLink own index "DotStoresModel" "live" "[J").before args s = true) (hdg : decode cc pc = .ok (.getfield index, 3))
    (kk : W p l e R s m args below meth c H locs cells slots Q (F0 m (pc + 3) ls (.ref v :: rest))) : W p l e R s m args below meth c H locs cells slots Q (F0 m pc ls (.ref a :: rest)) := by
  obtain ⟨k0, h0⟩ := va_pl_get (X := []) (f := g_F G K n rI rJ rQ fI fR) hL
  exact va_get (D := G.1) (ci := 3) (v := .ref v) (C := RX3) (T := TX3) (N := 14) hx hb hts hin hown hK hG.1 k0 (h0.trans (congrArg (fun e => some (a, e)) (g_k3 G hk))) rfl 3 (by decide) hlink (fun _ h9 => h9) (congrArg (fun o => some (va_rf o)) hv) hdg kk
theorem w_Model_live (hx : p.tables.exec = Jvm.exec) (hb : c.code = cc) {index : Nat} {Ts : List Cond} (hts : ∀ w ∈ Ts, w.before args s = true) (hin : ∀ w ∈ wsX30, w ∈ Ts) (hown : s.vm.findClass RX3 = some m.cls) (hK : g_K G s) (hG : gw G base H0 (L, K, n, rI, rJ, rQ, fI, fR) H locs) (hL : a ∈ L) (hk : K a = 3) {x : Nat} (hinit : meth.name = "<init>") (hlink : (Cond.fieldLink RX3 index "DotStoresModel" "live" "[J").before args s = true) (hdg : decode cc pc = .ok (.putfield index, 3))
    (kk : ∀ (H1 : Heap) (locs1 : List Loc), gw G base H0 (L, K, n, rI, rJ, rQ, fI, g_up fR a 3 (some x)) H1 locs1 → W p l e R s m args below meth c H1 locs1 cells slots Q (F0 m (pc + 3) ls rest)) : W p l e R s m args below meth c H locs cells slots Q (F0 m pc ls (.ref x :: .ref a :: rest)) := by
  obtain ⟨k0, h0⟩ := va_pl_get (X := []) (f := g_F G K n rI rJ rQ fI fR) hL
  refine va_putF (D := G.1) (ci := 3) (v := .ref x) (C := RX3) (T := TX3) (N := 14) hx hb hts hin tyX3 tyX3_ok nmX3 hown hK hG.1 hG.2.1 hG.2.2.1 k0 (h0.trans (congrArg (fun e => some (a, e)) (g_k3 G hk))) rfl 3 (by decide) hlink (fun _ h9 => h9) rfl hinit rfl (tyX3_ok 3 (by decide)) rfl rfl (by simp) hdg (fun H1 locs1 h1 h2 h3 => kk H1 locs1 ?_)
  exact g_set hG.2.2.2 hG.2.1 hL h0 (g_u_Model_live G hk x) h1 h2 h3
theorem r_Model_put (hx : p.tables.exec = Jvm.exec) (hb : c.code = cc) {own : String} {index : Nat} {Ts : List Cond} (hts : ∀ w ∈ Ts, w.before args s = true) (hin : ∀ w ∈ wsX30, w ∈ Ts) (hown : s.vm.findClass own = some m.cls) (hK : g_K G s) (hG : gw G base H0 (L, K, n, rI, rJ, rQ, fI, fR) H locs) (hL : a ∈ L) (hk : K a = 3) {v : Nat} (hv : fR a 4 = some v) (hlink : (Cond.fieldLink own index "DotStoresModel" "put" "[I").before args s = true) (hdg : decode cc pc = .ok (.getfield index, 3))
    (kk : W p l e R s m args below meth c H locs cells slots Q (F0 m (pc + 3) ls (.ref v :: rest))) : W p l e R s m args below meth c H locs cells slots Q (F0 m pc ls (.ref a :: rest)) := by
  obtain ⟨k0, h0⟩ := va_pl_get (X := []) (f := g_F G K n rI rJ rQ fI fR) hL
  exact va_get (D := G.1) (ci := 3) (v := .ref v) (C := RX3) (T := TX3) (N := 14) hx hb hts hin hown hK hG.1 k0 (h0.trans (congrArg (fun e => some (a, e)) (g_k3 G hk))) rfl 4 (by decide) hlink (fun _ h9 => h9) (congrArg (fun o => some (va_rf o)) hv) hdg kk
theorem w_Model_put (hx : p.tables.exec = Jvm.exec) (hb : c.code = cc) {index : Nat} {Ts : List Cond} (hts : ∀ w ∈ Ts, w.before args s = true) (hin : ∀ w ∈ wsX30, w ∈ Ts) (hown : s.vm.findClass RX3 = some m.cls) (hK : g_K G s) (hG : gw G base H0 (L, K, n, rI, rJ, rQ, fI, fR) H locs) (hL : a ∈ L) (hk : K a = 3) {x : Nat} (hinit : meth.name = "<init>") (hlink : (Cond.fieldLink RX3 index "DotStoresModel" "put" "[I").before args s = true) (hdg : decode cc pc = .ok (.putfield index, 3))
    (kk : ∀ (H1 : Heap) (locs1 : List Loc), gw G base H0 (L, K, n, rI, rJ, rQ, fI, g_up fR a 4 (some x)) H1 locs1 → W p l e R s m args below meth c H1 locs1 cells slots Q (F0 m (pc + 3) ls rest)) : W p l e R s m args below meth c H locs cells slots Q (F0 m pc ls (.ref x :: .ref a :: rest)) := by
  obtain ⟨k0, h0⟩ := va_pl_get (X := []) (f := g_F G K n rI rJ rQ fI fR) hL
  refine va_putF (D := G.1) (ci := 3) (v := .ref x) (C := RX3) (T := TX3) (N := 14) hx hb hts hin tyX3 tyX3_ok nmX3 hown hK hG.1 hG.2.1 hG.2.2.1 k0 (h0.trans (congrArg (fun e => some (a, e)) (g_k3 G hk))) rfl 4 (by decide) hlink (fun _ h9 => h9) rfl hinit rfl (tyX3_ok 4 (by decide)) rfl rfl (by simp) hdg (fun H1 locs1 h1 h2 h3 => kk H1 locs1 ?_)
  exact g_set hG.2.2.2 hG.2.1 hL h0 (g_u_Model_put G hk x) h1 h2 h3
theorem r_Model_taken (hx : p.tables.exec = Jvm.exec) (hb : c.code = cc) {own : String} {index : Nat} {Ts : List Cond} (hts : ∀ w ∈ Ts, w.before args s = true) (hin : ∀ w ∈ wsX30, w ∈ Ts) (hown : s.vm.findClass own = some m.cls) (hK : g_K G s) (hG : gw G base H0 (L, K, n, rI, rJ, rQ, fI, fR) H locs) (hL : a ∈ L) (hk : K a = 3) {v : Nat} (hv : fR a 5 = some v) (hlink : (Cond.fieldLink own index "DotStoresModel" "taken" "[I").before args s = true) (hdg : decode cc pc = .ok (.getfield index, 3))
    (kk : W p l e R s m args below meth c H locs cells slots Q (F0 m (pc + 3) ls (.ref v :: rest))) : W p l e R s m args below meth c H locs cells slots Q (F0 m pc ls (.ref a :: rest)) := by
  obtain ⟨k0, h0⟩ := va_pl_get (X := []) (f := g_F G K n rI rJ rQ fI fR) hL
  exact va_get (D := G.1) (ci := 3) (v := .ref v) (C := RX3) (T := TX3) (N := 14) hx hb hts hin hown hK hG.1 k0 (h0.trans (congrArg (fun e => some (a, e)) (g_k3 G hk))) rfl 5 (by decide) hlink (fun _ h9 => h9) (congrArg (fun o => some (va_rf o)) hv) hdg kk
theorem w_Model_taken (hx : p.tables.exec = Jvm.exec) (hb : c.code = cc) {index : Nat} {Ts : List Cond} (hts : ∀ w ∈ Ts, w.before args s = true) (hin : ∀ w ∈ wsX30, w ∈ Ts) (hown : s.vm.findClass RX3 = some m.cls) (hK : g_K G s) (hG : gw G base H0 (L, K, n, rI, rJ, rQ, fI, fR) H locs) (hL : a ∈ L) (hk : K a = 3) {x : Nat} (hinit : meth.name = "<init>") (hlink : (Cond.fieldLink RX3 index "DotStoresModel" "taken" "[I").before args s = true) (hdg : decode cc pc = .ok (.putfield index, 3))
    (kk : ∀ (H1 : Heap) (locs1 : List Loc), gw G base H0 (L, K, n, rI, rJ, rQ, fI, g_up fR a 5 (some x)) H1 locs1 → W p l e R s m args below meth c H1 locs1 cells slots Q (F0 m (pc + 3) ls rest)) : W p l e R s m args below meth c H locs cells slots Q (F0 m pc ls (.ref x :: .ref a :: rest)) := by
  obtain ⟨k0, h0⟩ := va_pl_get (X := []) (f := g_F G K n rI rJ rQ fI fR) hL
  refine va_putF (D := G.1) (ci := 3) (v := .ref x) (C := RX3) (T := TX3) (N := 14) hx hb hts hin tyX3 tyX3_ok nmX3 hown hK hG.1 hG.2.1 hG.2.2.1 k0 (h0.trans (congrArg (fun e => some (a, e)) (g_k3 G hk))) rfl 5 (by decide) hlink (fun _ h9 => h9) rfl hinit rfl (tyX3_ok 5 (by decide)) rfl rfl (by simp) hdg (fun H1 locs1 h1 h2 h3 => kk H1 locs1 ?_)
  exact g_set hG.2.2.2 hG.2.1 hL h0 (g_u_Model_taken G hk x) h1 h2 h3
theorem r_Model_time (hx : p.tables.exec = Jvm.exec) (hb : c.code = cc) {own : String} {index : Nat} {Ts : List Cond} (hts : ∀ w ∈ Ts, w.before args s = true) (hin : ∀ w ∈ wsX30, w ∈ Ts) (hown : s.vm.findClass own = some m.cls) (hK : g_K G s) (hG : gw G base H0 (L, K, n, rI, rJ, rQ, fI, fR) H locs) (hL : a ∈ L) (hk : K a = 3) {v : Nat} (hv : fR a 6 = some v) (hlink : (Cond.fieldLink own index "DotStoresModel" "time" "[I").before args s = true) (hdg : decode cc pc = .ok (.getfield index, 3))
    (kk : W p l e R s m args below meth c H locs cells slots Q (F0 m (pc + 3) ls (.ref v :: rest))) : W p l e R s m args below meth c H locs cells slots Q (F0 m pc ls (.ref a :: rest)) := by
  obtain ⟨k0, h0⟩ := va_pl_get (X := []) (f := g_F G K n rI rJ rQ fI fR) hL
  exact va_get (D := G.1) (ci := 3) (v := .ref v) (C := RX3) (T := TX3) (N := 14) hx hb hts hin hown hK hG.1 k0 (h0.trans (congrArg (fun e => some (a, e)) (g_k3 G hk))) rfl 6 (by decide) hlink (fun _ h9 => h9) (congrArg (fun o => some (va_rf o)) hv) hdg kk
theorem w_Model_time (hx : p.tables.exec = Jvm.exec) (hb : c.code = cc) {index : Nat} {Ts : List Cond} (hts : ∀ w ∈ Ts, w.before args s = true) (hin : ∀ w ∈ wsX30, w ∈ Ts) (hown : s.vm.findClass RX3 = some m.cls) (hK : g_K G s) (hG : gw G base H0 (L, K, n, rI, rJ, rQ, fI, fR) H locs) (hL : a ∈ L) (hk : K a = 3) {x : Nat} (hinit : meth.name = "<init>") (hlink : (Cond.fieldLink RX3 index "DotStoresModel" "time" "[I").before args s = true) (hdg : decode cc pc = .ok (.putfield index, 3))
    (kk : ∀ (H1 : Heap) (locs1 : List Loc), gw G base H0 (L, K, n, rI, rJ, rQ, fI, g_up fR a 6 (some x)) H1 locs1 → W p l e R s m args below meth c H1 locs1 cells slots Q (F0 m (pc + 3) ls rest)) : W p l e R s m args below meth c H locs cells slots Q (F0 m pc ls (.ref x :: .ref a :: rest)) := by
  obtain ⟨k0, h0⟩ := va_pl_get (X := []) (f := g_F G K n rI rJ rQ fI fR) hL
  refine va_putF (D := G.1) (ci := 3) (v := .ref x) (C := RX3) (T := TX3) (N := 14) hx hb hts hin tyX3 tyX3_ok nmX3 hown hK hG.1 hG.2.1 hG.2.2.1 k0 (h0.trans (congrArg (fun e => some (a, e)) (g_k3 G hk))) rfl 6 (by decide) hlink (fun _ h9 => h9) rfl hinit rfl (tyX3_ok 6 (by decide)) rfl rfl (by simp) hdg (fun H1 locs1 h1 h2 h3 => kk H1 locs1 ?_)
  exact g_set hG.2.2.2 hG.2.1 hL h0 (g_u_Model_time G hk x) h1 h2 h3
theorem r_Model_by (hx : p.tables.exec = Jvm.exec) (hb : c.code = cc) {own : String} {index : Nat} {Ts : List Cond} (hts : ∀ w ∈ Ts, w.before args s = true) (hin : ∀ w ∈ wsX30, w ∈ Ts) (hown : s.vm.findClass own = some m.cls) (hK : g_K G s) (hG : gw G base H0 (L, K, n, rI, rJ, rQ, fI, fR) H locs) (hL : a ∈ L) (hk : K a = 3) {v : Nat} (hv : fR a 7 = some v) (hlink : (Cond.fieldLink own index "DotStoresModel" "by" "[I").before args s = true) (hdg : decode cc pc = .ok (.getfield index, 3))
    (kk : W p l e R s m args below meth c H locs cells slots Q (F0 m (pc + 3) ls (.ref v :: rest))) : W p l e R s m args below meth c H locs cells slots Q (F0 m pc ls (.ref a :: rest)) := by
  obtain ⟨k0, h0⟩ := va_pl_get (X := []) (f := g_F G K n rI rJ rQ fI fR) hL
  exact va_get (D := G.1) (ci := 3) (v := .ref v) (C := RX3) (T := TX3) (N := 14) hx hb hts hin hown hK hG.1 k0 (h0.trans (congrArg (fun e => some (a, e)) (g_k3 G hk))) rfl 7 (by decide) hlink (fun _ h9 => h9) (congrArg (fun o => some (va_rf o)) hv) hdg kk
theorem w_Model_by (hx : p.tables.exec = Jvm.exec) (hb : c.code = cc) {index : Nat} {Ts : List Cond} (hts : ∀ w ∈ Ts, w.before args s = true) (hin : ∀ w ∈ wsX30, w ∈ Ts) (hown : s.vm.findClass RX3 = some m.cls) (hK : g_K G s) (hG : gw G base H0 (L, K, n, rI, rJ, rQ, fI, fR) H locs) (hL : a ∈ L) (hk : K a = 3) {x : Nat} (hinit : meth.name = "<init>") (hlink : (Cond.fieldLink RX3 index "DotStoresModel" "by" "[I").before args s = true) (hdg : decode cc pc = .ok (.putfield index, 3))
    (kk : ∀ (H1 : Heap) (locs1 : List Loc), gw G base H0 (L, K, n, rI, rJ, rQ, fI, g_up fR a 7 (some x)) H1 locs1 → W p l e R s m args below meth c H1 locs1 cells slots Q (F0 m (pc + 3) ls rest)) : W p l e R s m args below meth c H locs cells slots Q (F0 m pc ls (.ref x :: .ref a :: rest)) := by
  obtain ⟨k0, h0⟩ := va_pl_get (X := []) (f := g_F G K n rI rJ rQ fI fR) hL
  refine va_putF (D := G.1) (ci := 3) (v := .ref x) (C := RX3) (T := TX3) (N := 14) hx hb hts hin tyX3 tyX3_ok nmX3 hown hK hG.1 hG.2.1 hG.2.2.1 k0 (h0.trans (congrArg (fun e => some (a, e)) (g_k3 G hk))) rfl 7 (by decide) hlink (fun _ h9 => h9) rfl hinit rfl (tyX3_ok 7 (by decide)) rfl rfl (by simp) hdg (fun H1 locs1 h1 h2 h3 => kk H1 locs1 ?_)
  exact g_set hG.2.2.2 hG.2.1 hL h0 (g_u_Model_by G hk x) h1 h2 h3
theorem r_Model_isIn (hx : p.tables.exec = Jvm.exec) (hb : c.code = cc) {own : String} {index : Nat} {Ts : List Cond} (hts : ∀ w ∈ Ts, w.before args s = true) (hin : ∀ w ∈ wsX30, w ∈ Ts) (hown : s.vm.findClass own = some m.cls) (hK : g_K G s) (hG : gw G base H0 (L, K, n, rI, rJ, rQ, fI, fR) H locs) (hL : a ∈ L) (hk : K a = 3) {v : Nat} (hv : fR a 8 = some v) (hlink : (Cond.fieldLink own index "DotStoresModel" "isIn" "[Z").before args s = true) (hdg : decode cc pc = .ok (.getfield index, 3))
    (kk : W p l e R s m args below meth c H locs cells slots Q (F0 m (pc + 3) ls (.ref v :: rest))) : W p l e R s m args below meth c H locs cells slots Q (F0 m pc ls (.ref a :: rest)) := by
  obtain ⟨k0, h0⟩ := va_pl_get (X := []) (f := g_F G K n rI rJ rQ fI fR) hL
  exact va_get (D := G.1) (ci := 3) (v := .ref v) (C := RX3) (T := TX3) (N := 14) hx hb hts hin hown hK hG.1 k0 (h0.trans (congrArg (fun e => some (a, e)) (g_k3 G hk))) rfl 8 (by decide) hlink (fun _ h9 => h9) (congrArg (fun o => some (va_rf o)) hv) hdg kk
theorem w_Model_isIn (hx : p.tables.exec = Jvm.exec) (hb : c.code = cc) {index : Nat} {Ts : List Cond} (hts : ∀ w ∈ Ts, w.before args s = true) (hin : ∀ w ∈ wsX30, w ∈ Ts) (hown : s.vm.findClass RX3 = some m.cls) (hK : g_K G s) (hG : gw G base H0 (L, K, n, rI, rJ, rQ, fI, fR) H locs) (hL : a ∈ L) (hk : K a = 3) {x : Nat} (hinit : meth.name = "<init>") (hlink : (Cond.fieldLink RX3 index "DotStoresModel" "isIn" "[Z").before args s = true) (hdg : decode cc pc = .ok (.putfield index, 3))
    (kk : ∀ (H1 : Heap) (locs1 : List Loc), gw G base H0 (L, K, n, rI, rJ, rQ, fI, g_up fR a 8 (some x)) H1 locs1 → W p l e R s m args below meth c H1 locs1 cells slots Q (F0 m (pc + 3) ls rest)) : W p l e R s m args below meth c H locs cells slots Q (F0 m pc ls (.ref x :: .ref a :: rest)) := by
  obtain ⟨k0, h0⟩ := va_pl_get (X := []) (f := g_F G K n rI rJ rQ fI fR) hL
  refine va_putF (D := G.1) (ci := 3) (v := .ref x) (C := RX3) (T := TX3) (N := 14) hx hb hts hin tyX3 tyX3_ok nmX3 hown hK hG.1 hG.2.1 hG.2.2.1 k0 (h0.trans (congrArg (fun e => some (a, e)) (g_k3 G hk))) rfl 8 (by decide) hlink (fun _ h9 => h9) rfl hinit rfl (tyX3_ok 8 (by decide)) rfl rfl (by simp) hdg (fun H1 locs1 h1 h2 h3 => kk H1 locs1 ?_)
  exact g_set hG.2.2.2 hG.2.1 hL h0 (g_u_Model_isIn G hk x) h1 h2 h3
theorem r_Model_dotKey (hx : p.tables.exec = Jvm.exec) (hb : c.code = cc) {own : String} {index : Nat} {Ts : List Cond} (hts : ∀ w ∈ Ts, w.before args s = true) (hin : ∀ w ∈ wsX30, w ∈ Ts) (hown : s.vm.findClass own = some m.cls) (hK : g_K G s) (hG : gw G base H0 (L, K, n, rI, rJ, rQ, fI, fR) H locs) (hL : a ∈ L) (hk : K a = 3) {v : Nat} (hv : fR a 9 = some v) (hlink : (Cond.fieldLink own index "DotStoresModel" "dotKey" "[I").before args s = true) (hdg : decode cc pc = .ok (.getfield index, 3))
    (kk : W p l e R s m args below meth c H locs cells slots Q (F0 m (pc + 3) ls (.ref v :: rest))) : W p l e R s m args below meth c H locs cells slots Q (F0 m pc ls (.ref a :: rest)) := by
  obtain ⟨k0, h0⟩ := va_pl_get (X := []) (f := g_F G K n rI rJ rQ fI fR) hL
  exact va_get (D := G.1) (ci := 3) (v := .ref v) (C := RX3) (T := TX3) (N := 14) hx hb hts hin hown hK hG.1 k0 (h0.trans (congrArg (fun e => some (a, e)) (g_k3 G hk))) rfl 9 (by decide) hlink (fun _ h9 => h9) (congrArg (fun o => some (va_rf o)) hv) hdg kk
theorem w_Model_dotKey (hx : p.tables.exec = Jvm.exec) (hb : c.code = cc) {index : Nat} {Ts : List Cond} (hts : ∀ w ∈ Ts, w.before args s = true) (hin : ∀ w ∈ wsX30, w ∈ Ts) (hown : s.vm.findClass RX3 = some m.cls) (hK : g_K G s) (hG : gw G base H0 (L, K, n, rI, rJ, rQ, fI, fR) H locs) (hL : a ∈ L) (hk : K a = 3) {x : Nat} (hinit : meth.name = "<init>") (hlink : (Cond.fieldLink RX3 index "DotStoresModel" "dotKey" "[I").before args s = true) (hdg : decode cc pc = .ok (.putfield index, 3))
    (kk : ∀ (H1 : Heap) (locs1 : List Loc), gw G base H0 (L, K, n, rI, rJ, rQ, fI, g_up fR a 9 (some x)) H1 locs1 → W p l e R s m args below meth c H1 locs1 cells slots Q (F0 m (pc + 3) ls rest)) : W p l e R s m args below meth c H locs cells slots Q (F0 m pc ls (.ref x :: .ref a :: rest)) := by
  obtain ⟨k0, h0⟩ := va_pl_get (X := []) (f := g_F G K n rI rJ rQ fI fR) hL
  refine va_putF (D := G.1) (ci := 3) (v := .ref x) (C := RX3) (T := TX3) (N := 14) hx hb hts hin tyX3 tyX3_ok nmX3 hown hK hG.1 hG.2.1 hG.2.2.1 k0 (h0.trans (congrArg (fun e => some (a, e)) (g_k3 G hk))) rfl 9 (by decide) hlink (fun _ h9 => h9) rfl hinit rfl (tyX3_ok 9 (by decide)) rfl rfl (by simp) hdg (fun H1 locs1 h1 h2 h3 => kk H1 locs1 ?_)
  exact g_set hG.2.2.2 hG.2.1 hL h0 (g_u_Model_dotKey G hk x) h1 h2 h3
theorem r_Model_dotPart (hx : p.tables.exec = Jvm.exec) (hb : c.code = cc) {own : String} {index : Nat} {Ts : List Cond} (hts : ∀ w ∈ Ts, w.before args s = true) (hin : ∀ w ∈ wsX30, w ∈ Ts) (hown : s.vm.findClass own = some m.cls) (hK : g_K G s) (hG : gw G base H0 (L, K, n, rI, rJ, rQ, fI, fR) H locs) (hL : a ∈ L) (hk : K a = 3) {v : Nat} (hv : fR a 10 = some v) (hlink : (Cond.fieldLink own index "DotStoresModel" "dotPart" "[I").before args s = true) (hdg : decode cc pc = .ok (.getfield index, 3))
    (kk : W p l e R s m args below meth c H locs cells slots Q (F0 m (pc + 3) ls (.ref v :: rest))) : W p l e R s m args below meth c H locs cells slots Q (F0 m pc ls (.ref a :: rest)) := by
  obtain ⟨k0, h0⟩ := va_pl_get (X := []) (f := g_F G K n rI rJ rQ fI fR) hL
  exact va_get (D := G.1) (ci := 3) (v := .ref v) (C := RX3) (T := TX3) (N := 14) hx hb hts hin hown hK hG.1 k0 (h0.trans (congrArg (fun e => some (a, e)) (g_k3 G hk))) rfl 10 (by decide) hlink (fun _ h9 => h9) (congrArg (fun o => some (va_rf o)) hv) hdg kk
theorem w_Model_dotPart (hx : p.tables.exec = Jvm.exec) (hb : c.code = cc) {index : Nat} {Ts : List Cond} (hts : ∀ w ∈ Ts, w.before args s = true) (hin : ∀ w ∈ wsX30, w ∈ Ts) (hown : s.vm.findClass RX3 = some m.cls) (hK : g_K G s) (hG : gw G base H0 (L, K, n, rI, rJ, rQ, fI, fR) H locs) (hL : a ∈ L) (hk : K a = 3) {x : Nat} (hinit : meth.name = "<init>") (hlink : (Cond.fieldLink RX3 index "DotStoresModel" "dotPart" "[I").before args s = true) (hdg : decode cc pc = .ok (.putfield index, 3))
    (kk : ∀ (H1 : Heap) (locs1 : List Loc), gw G base H0 (L, K, n, rI, rJ, rQ, fI, g_up fR a 10 (some x)) H1 locs1 → W p l e R s m args below meth c H1 locs1 cells slots Q (F0 m (pc + 3) ls rest)) : W p l e R s m args below meth c H locs cells slots Q (F0 m pc ls (.ref x :: .ref a :: rest)) := by
  obtain ⟨k0, h0⟩ := va_pl_get (X := []) (f := g_F G K n rI rJ rQ fI fR) hL
  refine va_putF (D := G.1) (ci := 3) (v := .ref x) (C := RX3) (T := TX3) (N := 14) hx hb hts hin tyX3 tyX3_ok nmX3 hown hK hG.1 hG.2.1 hG.2.2.1 k0 (h0.trans (congrArg (fun e => some (a, e)) (g_k3 G hk))) rfl 10 (by decide) hlink (fun _ h9 => h9) rfl hinit rfl (tyX3_ok 10 (by decide)) rfl rfl (by simp) hdg (fun H1 locs1 h1 h2 h3 => kk H1 locs1 ?_)
  exact g_set hG.2.2.2 hG.2.1 hL h0 (g_u_Model_dotPart G hk x) h1 h2 h3
theorem r_Model_dotValue (hx : p.tables.exec = Jvm.exec) (hb : c.code = cc) {own : String} {index : Nat} {Ts : List Cond} (hts : ∀ w ∈ Ts, w.before args s = true) (hin : ∀ w ∈ wsX30, w ∈ Ts) (hown : s.vm.findClass own = some m.cls) (hK : g_K G s) (hG : gw G base H0 (L, K, n, rI, rJ, rQ, fI, fR) H locs) (hL : a ∈ L) (hk : K a = 3) {v : Nat} (hv : fR a 11 = some v) (hlink : (Cond.fieldLink own index "DotStoresModel" "dotValue" "[J").before args s = true) (hdg : decode cc pc = .ok (.getfield index, 3))
    (kk : W p l e R s m args below meth c H locs cells slots Q (F0 m (pc + 3) ls (.ref v :: rest))) : W p l e R s m args below meth c H locs cells slots Q (F0 m pc ls (.ref a :: rest)) := by
  obtain ⟨k0, h0⟩ := va_pl_get (X := []) (f := g_F G K n rI rJ rQ fI fR) hL
  exact va_get (D := G.1) (ci := 3) (v := .ref v) (C := RX3) (T := TX3) (N := 14) hx hb hts hin hown hK hG.1 k0 (h0.trans (congrArg (fun e => some (a, e)) (g_k3 G hk))) rfl 11 (by decide) hlink (fun _ h9 => h9) (congrArg (fun o => some (va_rf o)) hv) hdg kk
theorem w_Model_dotValue (hx : p.tables.exec = Jvm.exec) (hb : c.code = cc) {index : Nat} {Ts : List Cond} (hts : ∀ w ∈ Ts, w.before args s = true) (hin : ∀ w ∈ wsX30, w ∈ Ts) (hown : s.vm.findClass RX3 = some m.cls) (hK : g_K G s) (hG : gw G base H0 (L, K, n, rI, rJ, rQ, fI, fR) H locs) (hL : a ∈ L) (hk : K a = 3) {x : Nat} (hinit : meth.name = "<init>") (hlink : (Cond.fieldLink RX3 index "DotStoresModel" "dotValue" "[J").before args s = true) (hdg : decode cc pc = .ok (.putfield index, 3))
    (kk : ∀ (H1 : Heap) (locs1 : List Loc), gw G base H0 (L, K, n, rI, rJ, rQ, fI, g_up fR a 11 (some x)) H1 locs1 → W p l e R s m args below meth c H1 locs1 cells slots Q (F0 m (pc + 3) ls rest)) : W p l e R s m args below meth c H locs cells slots Q (F0 m pc ls (.ref x :: .ref a :: rest)) := by
  obtain ⟨k0, h0⟩ := va_pl_get (X := []) (f := g_F G K n rI rJ rQ fI fR) hL
  refine va_putF (D := G.1) (ci := 3) (v := .ref x) (C := RX3) (T := TX3) (N := 14) hx hb hts hin tyX3 tyX3_ok nmX3 hown hK hG.1 hG.2.1 hG.2.2.1 k0 (h0.trans (congrArg (fun e => some (a, e)) (g_k3 G hk))) rfl 11 (by decide) hlink (fun _ h9 => h9) rfl hinit rfl (tyX3_ok 11 (by decide)) rfl rfl (by simp) hdg (fun H1 locs1 h1 h2 h3 => kk H1 locs1 ?_)
  exact g_set hG.2.2.2 hG.2.1 hL h0 (g_u_Model_dotValue G hk x) h1 h2 h3
theorem r_Model_many (hx : p.tables.exec = Jvm.exec) (hb : c.code = cc) {own : String} {index : Nat} {Ts : List Cond} (hts : ∀ w ∈ Ts, w.before args s = true) (hin : ∀ w ∈ wsX30, w ∈ Ts) (hown : s.vm.findClass own = some m.cls) (hK : g_K G s) (hG : gw G base H0 (L, K, n, rI, rJ, rQ, fI, fR) H locs) (hL : a ∈ L) (hk : K a = 3) (hlink : (Cond.fieldLink own index "DotStoresModel" "many" "I").before args s = true) (hdg : decode cc pc = .ok (.getfield index, 3))
    (kk : W p l e R s m args below meth c H locs cells slots Q (F0 m (pc + 3) ls (.int (fI a 12) :: rest))) : W p l e R s m args below meth c H locs cells slots Q (F0 m pc ls (.ref a :: rest)) := by
  obtain ⟨k0, h0⟩ := va_pl_get (X := []) (f := g_F G K n rI rJ rQ fI fR) hL
  exact va_get (D := G.1) (ci := 3) (v := .int (fI a 12)) (C := RX3) (T := TX3) (N := 14) hx hb hts hin hown hK hG.1 k0 (h0.trans (congrArg (fun e => some (a, e)) (g_k3 G hk))) rfl 12 (by decide) hlink (fun _ h9 => h9) rfl hdg kk
theorem w_Model_many (hx : p.tables.exec = Jvm.exec) (hb : c.code = cc) {own : String} {index : Nat} {Ts : List Cond} (hts : ∀ w ∈ Ts, w.before args s = true) (hin : ∀ w ∈ wsX30, w ∈ Ts) (hown : s.vm.findClass own = some m.cls) (hK : g_K G s) (hG : gw G base H0 (L, K, n, rI, rJ, rQ, fI, fR) H locs) (hL : a ∈ L) (hk : K a = 3) {x : Int32} (hlink : (Cond.fieldLink own index "DotStoresModel" "many" "I").before args s = true) (hdg : decode cc pc = .ok (.putfield index, 3))
    (kk : ∀ (H1 : Heap) (locs1 : List Loc), gw G base H0 (L, K, n, rI, rJ, rQ, g_up fI a 12 x, fR) H1 locs1 → W p l e R s m args below meth c H1 locs1 cells slots Q (F0 m (pc + 3) ls rest)) : W p l e R s m args below meth c H locs cells slots Q (F0 m pc ls (.int x :: .ref a :: rest)) := by
  obtain ⟨k0, h0⟩ := va_pl_get (X := []) (f := g_F G K n rI rJ rQ fI fR) hL
  refine va_put (D := G.1) (ci := 3) (v := .int x) (C := RX3) (T := TX3) (N := 14) hx hb hts hin tyX3 tyX3_ok nmX3 hown hK hG.1 hG.2.1 hG.2.2.1 k0 (h0.trans (congrArg (fun e => some (a, e)) (g_k3 G hk))) rfl 12 (by decide) hlink (fun _ h9 => h9) rfl (tyX3_ok 12 (by decide)) rfl rfl (by simp) hdg (fun H1 locs1 h1 h2 h3 => kk H1 locs1 ?_)
  exact g_set hG.2.2.2 hG.2.1 hL h0 (g_u_Model_many G hk x) h1 h2 h3
theorem r_Model_sorted (hx : p.tables.exec = Jvm.exec) (hb : c.code = cc) {own : String} {index : Nat} {Ts : List Cond} (hts : ∀ w ∈ Ts, w.before args s = true) (hin : ∀ w ∈ wsX30, w ∈ Ts) (hown : s.vm.findClass own = some m.cls) (hK : g_K G s) (hG : gw G base H0 (L, K, n, rI, rJ, rQ, fI, fR) H locs) (hL : a ∈ L) (hk : K a = 3) {v : Nat} (hv : fR a 13 = some v) (hlink : (Cond.fieldLink own index "DotStoresModel" "sorted" "[J").before args s = true) (hdg : decode cc pc = .ok (.getfield index, 3))
    (kk : W p l e R s m args below meth c H locs cells slots Q (F0 m (pc + 3) ls (.ref v :: rest))) : W p l e R s m args below meth c H locs cells slots Q (F0 m pc ls (.ref a :: rest)) := by
  obtain ⟨k0, h0⟩ := va_pl_get (X := []) (f := g_F G K n rI rJ rQ fI fR) hL
  exact va_get (D := G.1) (ci := 3) (v := .ref v) (C := RX3) (T := TX3) (N := 14) hx hb hts hin hown hK hG.1 k0 (h0.trans (congrArg (fun e => some (a, e)) (g_k3 G hk))) rfl 13 (by decide) hlink (fun _ h9 => h9) (congrArg (fun o => some (va_rf o)) hv) hdg kk
theorem w_Model_sorted (hx : p.tables.exec = Jvm.exec) (hb : c.code = cc) {index : Nat} {Ts : List Cond} (hts : ∀ w ∈ Ts, w.before args s = true) (hin : ∀ w ∈ wsX30, w ∈ Ts) (hown : s.vm.findClass RX3 = some m.cls) (hK : g_K G s) (hG : gw G base H0 (L, K, n, rI, rJ, rQ, fI, fR) H locs) (hL : a ∈ L) (hk : K a = 3) {x : Nat} (hinit : meth.name = "<init>") (hlink : (Cond.fieldLink RX3 index "DotStoresModel" "sorted" "[J").before args s = true) (hdg : decode cc pc = .ok (.putfield index, 3))
    (kk : ∀ (H1 : Heap) (locs1 : List Loc), gw G base H0 (L, K, n, rI, rJ, rQ, fI, g_up fR a 13 (some x)) H1 locs1 → W p l e R s m args below meth c H1 locs1 cells slots Q (F0 m (pc + 3) ls rest)) : W p l e R s m args below meth c H locs cells slots Q (F0 m pc ls (.ref x :: .ref a :: rest)) := by
  obtain ⟨k0, h0⟩ := va_pl_get (X := []) (f := g_F G K n rI rJ rQ fI fR) hL
  refine va_putF (D := G.1) (ci := 3) (v := .ref x) (C := RX3) (T := TX3) (N := 14) hx hb hts hin tyX3 tyX3_ok nmX3 hown hK hG.1 hG.2.1 hG.2.2.1 k0 (h0.trans (congrArg (fun e => some (a, e)) (g_k3 G hk))) rfl 13 (by decide) hlink (fun _ h9 => h9) rfl hinit rfl (tyX3_ok 13 (by decide)) rfl rfl (by simp) hdg (fun H1 locs1 h1 h2 h3 => kk H1 locs1 ?_)
  exact g_set hG.2.2.2 hG.2.1 hL h0 (g_u_Model_sorted G hk x) h1 h2 h3
end GL
end
section
/-! calls over the pool; exceptions leave the pool as it was -/
theorem g_ps {G : gG} {base : Nat} {H0 H : Heap} {τ : gS} {locs : List Loc} {s : State} {As : List Value} (hK : g_K G s) (hG : gw G base H0 τ H locs) : PreS s H (va_Pc As (g_Pr G base τ)) As :=
  ⟨g_blind, fun U hU hW => ⟨rfl, ⟨by rw [hU]; exact hG.1, hG.2.1⟩, by rw [hU]; exact Nat.le_trans hG.2.2.2 hG.2.2.1.1, g_K.moved hW.alike hK⟩⟩
section GPV
variable {G : gG} {base : Nat} {H0 H : Heap} {L : List Nat} {K n : Nat → Nat} {rI : Nat → Nat → Int32} {rJ : Nat → Nat → Int64} {rQ : Nat → Nat → Option Nat} {fI : Nat → Nat → Int32} {fR : Nat → Nat → Option Nat} {locs : List Loc} {s : State} {As : List Value} {b : Nat}
theorem g_rv0 (hK : g_K G s) (hG : gw G base H0 (L, K, n, rI, rJ, rQ, fI, fR) H locs) (hL : b ∈ L) (hk : K b = 0) : ∃ cell : Cell, H[b]? = some cell ∧ cell.vm.isStatics = false ∧ s.vm.findClass RX0 = some cell.cls := by
  obtain ⟨k0, h0⟩ := va_pl_get (X := []) (f := g_F G K n rI rJ rQ fI fR) hL
  exact va_recv (q := (RX0, TX0, 7)) hK hG.1 (ci := 0) (q0 := k0) rfl (h0.trans (congrArg (fun e => some (b, e)) (g_k0 G hk)))
theorem g_rv1 (hK : g_K G s) (hG : gw G base H0 (L, K, n, rI, rJ, rQ, fI, fR) H locs) (hL : b ∈ L) (hk : K b = 1) : ∃ cell : Cell, H[b]? = some cell ∧ cell.vm.isStatics = false ∧ s.vm.findClass RX1 = some cell.cls := by
  obtain ⟨k0, h0⟩ := va_pl_get (X := []) (f := g_F G K n rI rJ rQ fI fR) hL
  exact va_recv (q := (RX1, TX1, 5)) hK hG.1 (ci := 1) (q0 := k0) rfl (h0.trans (congrArg (fun e => some (b, e)) (g_k1 G hk)))
theorem g_rv2 (hK : g_K G s) (hG : gw G base H0 (L, K, n, rI, rJ, rQ, fI, fR) H locs) (hL : b ∈ L) (hk : K b = 2) : ∃ cell : Cell, H[b]? = some cell ∧ cell.vm.isStatics = false ∧ s.vm.findClass RX2 = some cell.cls := by
  obtain ⟨k0, h0⟩ := va_pl_get (X := []) (f := g_F G K n rI rJ rQ fI fR) hL
  exact va_recv (q := (RX2, TX2, 6)) hK hG.1 (ci := 2) (q0 := k0) rfl (h0.trans (congrArg (fun e => some (b, e)) (g_k2 G hk)))
theorem g_rv3 (hK : g_K G s) (hG : gw G base H0 (L, K, n, rI, rJ, rQ, fI, fR) H locs) (hL : b ∈ L) (hk : K b = 3) : ∃ cell : Cell, H[b]? = some cell ∧ cell.vm.isStatics = false ∧ s.vm.findClass RX3 = some cell.cls := by
  obtain ⟨k0, h0⟩ := va_pl_get (X := []) (f := g_F G K n rI rJ rQ fI fR) hL
  exact va_recv (q := (RX3, TX3, 14)) hK hG.1 (ci := 3) (q0 := k0) rfl (h0.trans (congrArg (fun e => some (b, e)) (g_k3 G hk)))
theorem g_pv0 (hK : g_K G s) (hG : gw G base H0 (L, K, n, rI, rJ, rQ, fI, fR) H locs) (hL : b ∈ L) (hk : K b = 0) : PreV s H RX0 b (va_Pc (.ref b :: As) (g_Pr G base (L, K, n, rI, rJ, rQ, fI, fR))) As := ⟨g_blind, g_rv0 hK hG hL hk, (g_ps hK hG).2⟩
theorem g_pv1 (hK : g_K G s) (hG : gw G base H0 (L, K, n, rI, rJ, rQ, fI, fR) H locs) (hL : b ∈ L) (hk : K b = 1) : PreV s H RX1 b (va_Pc (.ref b :: As) (g_Pr G base (L, K, n, rI, rJ, rQ, fI, fR))) As := ⟨g_blind, g_rv1 hK hG hL hk, (g_ps hK hG).2⟩
theorem g_pv2 (hK : g_K G s) (hG : gw G base H0 (L, K, n, rI, rJ, rQ, fI, fR) H locs) (hL : b ∈ L) (hk : K b = 2) : PreV s H RX2 b (va_Pc (.ref b :: As) (g_Pr G base (L, K, n, rI, rJ, rQ, fI, fR))) As := ⟨g_blind, g_rv2 hK hG hL hk, (g_ps hK hG).2⟩
theorem g_pv3 (hK : g_K G s) (hG : gw G base H0 (L, K, n, rI, rJ, rQ, fI, fR) H locs) (hL : b ∈ L) (hk : K b = 3) : PreV s H RX3 b (va_Pc (.ref b :: As) (g_Pr G base (L, K, n, rI, rJ, rQ, fI, fR))) As := ⟨g_blind, g_rv3 hK hG hL hk, (g_ps hK hG).2⟩
end GPV
/-- a contract's end: the answer, and the pool behind it -/
abbrev g_Qi {S : Type} (G : gG) (base : Nat) (σ : S → gS) (post : Int32 → S → Prop) : Array Value → State → Outcome → State → Prop := va_Qi post (fun u t => g_at G base (σ u) t) (g_A base)
abbrev g_Ql {S : Type} (G : gG) (base : Nat) (σ : S → gS) (post : Int64 → S → Prop) : Array Value → State → Outcome → State → Prop := va_Ql post (fun u t => g_at G base (σ u) t) (g_A base)
abbrev g_Qv {S : Type} (G : gG) (base : Nat) (σ : S → gS) (post : S → Prop) : Array Value → State → Outcome → State → Prop := va_Qv post (fun u t => g_at G base (σ u) t) (g_A base)
/-- an answer that is an object: its address among what is told -/
def g_Qr {S : Type} (G : gG) (base : Nat) (σ : S → gS) (post : Nat → S → Prop) : Array Value → State → Outcome → State → Prop := fun _ st oc t => (∃ (r : Nat) (u : S), oc = .returned (some (.ref r)) ∧ post r u ∧ g_at G base (σ u) t) ∧ va_F (g_A base) st t
section GC
variable {p : Program} {l : Launch} {e : Env} {R : Room} {s : State} {m : MethodId} {args : Array Value} {below : List Frame} {meth : Method} {c : Code} {H : Heap} {locs : List Loc} {cells slots : Nat} {Q : State → Prop}
variable {pc : Nat} {ls : Array Slot} {rest st0 : List Value} {G : gG} {base : Nat} {H0 : Heap} {τ : gS} {mc ms : Nat} {a : Array Value}
theorem g_calli {S : Type} {σ : S → gS} {post : Int32 → S → Prop} (hr : va_Run p l e R s m args below meth c H locs cells slots mc ms (F0 m pc ls st0) rest (g_Qi G base σ post a) (g_A base)) (hG : gw G base H0 τ H locs)
    (kk : ∀ (r : Int32) (u : S) (H1 : Heap) (locs1 : List Loc), post r u → gw G base H0 (σ u) H1 locs1 → W p l e R s m args below meth c H1 locs1 (cells + mc) (slots + ms) Q (F0 m (pc + 3) ls (.int r :: rest))) : W p l e R s m args below meth c H locs cells slots Q (F0 m pc ls st0) :=
  va_calli hr hG.2.2.1 (fun _ _ h => h) (fun _ h => h) (fun r u t H1 locs1 ht _ hp hB _ _ hS => kk r u H1 locs1 hp ⟨by rw [← ht]; exact hB.1, hB.2, hS, hG.2.2.2⟩)
theorem g_calll {S : Type} {σ : S → gS} {post : Int64 → S → Prop} (hr : va_Run p l e R s m args below meth c H locs cells slots mc ms (F0 m pc ls st0) rest (g_Ql G base σ post a) (g_A base)) (hG : gw G base H0 τ H locs)
    (kk : ∀ (r : Int64) (u : S) (H1 : Heap) (locs1 : List Loc), post r u → gw G base H0 (σ u) H1 locs1 → W p l e R s m args below meth c H1 locs1 (cells + mc) (slots + ms) Q (F0 m (pc + 3) ls (.long r :: rest))) : W p l e R s m args below meth c H locs cells slots Q (F0 m pc ls st0) :=
  va_calll hr hG.2.2.1 (fun _ _ h => h) (fun _ h => h) (fun r u t H1 locs1 ht _ hp hB _ _ hS => kk r u H1 locs1 hp ⟨by rw [← ht]; exact hB.1, hB.2, hS, hG.2.2.2⟩)
theorem g_callv {S : Type} {σ : S → gS} {post : S → Prop} (hr : va_Run p l e R s m args below meth c H locs cells slots mc ms (F0 m pc ls st0) rest (g_Qv G base σ post a) (g_A base)) (hG : gw G base H0 τ H locs)
    (kk : ∀ (u : S) (H1 : Heap) (locs1 : List Loc), post u → gw G base H0 (σ u) H1 locs1 → W p l e R s m args below meth c H1 locs1 (cells + mc) (slots + ms) Q (F0 m (pc + 3) ls rest)) : W p l e R s m args below meth c H locs cells slots Q (F0 m pc ls st0) :=
  va_callv hr hG.2.2.1 (fun _ _ h => h) (fun _ h => h) (fun u t H1 locs1 ht _ hp hB _ _ hS => kk u H1 locs1 hp ⟨by rw [← ht]; exact hB.1, hB.2, hS, hG.2.2.2⟩)
/-! exceptions -/
abbrev g_bad : List Cond := (vx_atS RX2 165 "java/lang/IndexOutOfBoundsException" ["java/lang/RuntimeException", "java/lang/Exception"]).filter (fun w => !goodWord w) ++ (vx_atS RX2 176 "java/lang/UnsupportedOperationException" ["java/lang/RuntimeException", "java/lang/Exception"]).filter (fun w => !goodWord w) ++ (vx_atS RX2 190 "java/lang/IllegalStateException" ["java/lang/RuntimeException", "java/lang/Exception"]).filter (fun w => !goodWord w) ++ (vx_atS RX2 182 "java/lang/IllegalArgumentException" ["java/lang/RuntimeException", "java/lang/Exception"]).filter (fun w => !goodWord w)
/-- words that warmer tables keep -/
def g_wok : Cond → Bool
  | .castable _ _ => true
  | .declares _ => true
  | w => goodWord w
theorem g_bad_ok : ∀ w ∈ g_bad, g_wok w = true := by decide +kernel
theorem g_warm {w : Cond} (hw : g_wok w = true) {s U : State} (hW : s.WarmedH U.vm) (h : va_Nw w s) : va_Nw w U := by
  cases w <;> first | exact va_Nw.warmC hW h | exact va_Nw.warmD hW h | exact word_at hW (good_of_word hw) h
/-- what a throw needs of the start: the two statics of Throwable, the texts, and the words that aren't good ones -/
def g_X (base : Nat) (U : State) : Prop := vx_Zq Bundle.tN "UNASSIGNED_STACK" Bundle.steD (g_A base) U U.heap ∧ vx_Zq Bundle.tN "SUPPRESSED_SENTINEL" Bundle.listD (g_A base) U U.heap ∧
  (∃ sa, vk_R RX2 163 "no such replica" sa U) ∧ (∃ sa, vk_R RX2 168 "no such delta" sa U) ∧ (∃ sa, vk_R RX2 170 "no such key, part, element, value or question" sa U) ∧ (∃ sa, vk_R RX2 174 "the key is of another kind" sa U) ∧ (∃ sa, vk_R RX2 180 "no such time" sa U) ∧ (∃ sa, vk_R RX2 188 "the replica has no dot any more" sa U) ∧ (∃ sa, vk_R RX2 191 "there are as many deltas as may be" sa U) ∧
  ∀ w ∈ g_bad, va_Nw w U
theorem g_str {o t : String} {k : Nat} {s U : State} (hW : s.WarmedH U.vm) (h : ∃ sa, vk_R o k t sa s) : ∃ sa, vk_R o k t sa U := by
  obtain ⟨sa, h⟩ := h
  exact ⟨sa, vk_R.warm hW h⟩
theorem g_X.on {s U : State} {H1 : Heap} (h : g_X base s) (hS : va_S (g_A base) s.heap H1 locs) (hU : U.heap = H1) (hW : s.WarmedH U.vm) : g_X base U := by
  obtain ⟨h1, h2, h3, h4, h5, h6, h7, h8, h9, h10⟩ := h
  subst hU
  exact ⟨vx_Zq.moved hW.alike (h1.kept hS.2.1), vx_Zq.moved hW.alike (h2.kept hS.2.1), g_str hW h3, g_str hW h4, g_str hW h5, g_str hW h6, g_str hW h7, g_str hW h8, g_str hW h9, fun w hw => g_warm (g_bad_ok w hw) hW (h10 w hw)⟩
/-- the start of a method that may throw -/
def g_Px (G : gG) (base : Nat) (τ : gS) (U : State) : Prop := g_Pr G base τ U ∧ g_X base U
theorem g_calling {U : State} {g : JFrame} {mk : MethodId} {a : Array Value} (h : g_X base U) : g_X base (U.calling g mk a) := by
  refine g_X.on (s := U) (H1 := U.heap) (locs := []) h va_S.rf rfl ?_
  exact State.WarmedH.refl U
theorem g_blindx {av : List Value} : FrameBlind (va_Pc av (g_Px G base τ)) := fun a U g mk q => by
  obtain ⟨q0, q1, q2⟩ := q
  obtain ⟨b0, b1⟩ := g_blind (av := av) a U g mk ⟨q0, q1⟩
  exact ⟨b0, b1, g_calling q2⟩
theorem g_psx {As : List Value} (hK : g_K G s) (hX : g_X base s) (hG : gw G base s.heap τ H locs) : PreS s H (va_Pc As (g_Px G base τ)) As :=
  ⟨g_blindx, fun U hU hW => ⟨rfl, ((g_ps (As := As) hK hG).2 U hU hW).2, hX.on hG.2.2.1 hU hW⟩⟩
/-- what an exception tells: its class, and that the pool is as it was -/
abbrev g_XC (G : gG) (base : Nat) (τ : gS) (PX : String → Prop) : String → State → State → Prop := vx_X (S := Unit) (fun _ => True) (fun E _ t => PX E ∧ g_at G base τ t) (g_A base)
theorem g_out {Qc : Array Value → State → Outcome → State → Prop} {PX : String → Prop} {E : String} {ce : Cell} {q : Addr} {mc ms : Nat} (hnt : ∀ x ∈ c.exceptionTable.toList, False) (hlocks : meth.locks = false) (hce : H[q]? = some ce) (hcv : ce.vm = .none) (hcl : s.vm.findClass E = some ce.cls) (px : PX E)
    (hG : gw G base s.heap τ H locs) (hc : cells ≤ mc) (hs : slots ≤ ms) : vx_W p l e R s m args below meth c H locs cells slots (vx_MQ below Qc (g_XC G base τ PX) args s mc ms (g_A base)) (F0 m pc ls rest) q :=
  vx_out (fun x hx => (hnt x hx).elim) hlocks hce hcv hcl (fun t ht _ => ⟨(), trivial, ⟨px, hG.at ht⟩, hG.2.2.1.F ht⟩) hG.2.2.1.2.2 hc hs
theorem g_throw {cc : ByteArray} {Qc : Array Value → State → Outcome → State → Prop} {PX : String → Prop} {cls text : String} {ik is ic mc ms : Nat} (hx : p.tables.exec = Jvm.exec) (hb : c.code = cc) (hl0 : l.stackTraces = false) (hown : s.vm.findClass RX2 = some m.cls) (hcls : Bundle.fit cls = true)
    (hk : (Cond.classLink RX2 ik cls).before args s = true) (hini : (Cond.initialized cls).before args s = true) (hstr : ∃ sa, vk_R RX2 is text sa s) (hat : ∀ w ∈ (vx_atS RX2 ic cls ["java/lang/RuntimeException", "java/lang/Exception"]).filter goodWord, w.before args s = true)
    (hbad : ∀ w ∈ (vx_atS RX2 ic cls ["java/lang/RuntimeException", "java/lang/Exception"]).filter (fun w => !goodWord w), w ∈ g_bad)
    (hgood : ∀ w ∈ Cond.classLink RX2 ik cls :: Cond.initialized cls :: vx_atS RX2 ic cls ["java/lang/RuntimeException", "java/lang/Exception"], vx_ot w = true)
    (hX : g_X base s) (hG : gw G base s.heap τ H locs) (hsize : ls.size = c.maxLocals)
    (d0 : decode cc pc = .ok (.new ik, 3)) (d3 : decode cc (pc + 3) = .ok (.dup, 1)) (d4 : decode cc (pc + 4) = .ok (.ldc is, 2)) (d6 : decode cc (pc + 6) = .ok (.invokespecial ic, 3)) (d9 : decode cc (pc + 9) = .ok (.athrow, 1))
    (hnt : ∀ x ∈ c.exceptionTable.toList, False) (hRframes : 5 < R.frames) (hRlocals : (rest.map fun v => v.category).sum + 82 ≤ R.locals) (hRcells : cells + 1 ≤ R.cells) (hRslots : slots + 6 ≤ R.slots) (hlocks : meth.locks = false)
    (px : PX cls) (hc : cells + 1 ≤ mc) (hs : slots + 6 ≤ ms) :
    W p l e R s m args below meth c H locs cells slots (vx_MQ below Qc (g_XC G base τ PX) args s mc ms (g_A base)) (F0 m pc ls rest) := by
  obtain ⟨sa, hstr⟩ := hstr
  refine vx_throwS (names := ["java/lang/RuntimeException", "java/lang/Exception"]) (A := g_A base) hx hb hl0 hown hcls (by decide +kernel) hk hini hstr (vx_hat hat hbad (fun w hw => va_Nw.use (A := args) ?_ (hX.2.2.2.2.2.2.2.2.2 w hw))) hgood hX.1 hX.2.1 hG.2.2.1 hsize d0 d3 d4 d6 d9 (fun x hx => (hnt x hx).elim) hRframes hRlocals hRcells hRslots hlocks ?_ hG.2.2.1.2.2 hc hs
  · exact (show ∀ w ∈ g_bad, w.onTables = true by decide +kernel) w hw
  · intro t hvm hz hk
    refine ⟨(), trivial, ⟨px, ?_, hG.2.1⟩, ?_⟩
    · intro k q hq
      exact (hG.1 k q hq).kept (hk q.1 (hG.1 k q hq).lt)
    · exact ⟨Nat.le_trans hG.2.2.1.1 hz, fun q h1 h2 => by rw [hk q (Nat.lt_of_lt_of_le h1 hG.2.2.1.1)]; exact hG.2.2.1.2.1 q h1 h2⟩
section GX
variable {S : Type} {σ : S → gS} {PX : String → Prop} {τ1 : gS}
theorem g_xi {post : Int32 → S → Prop} (hr : vx_Run p l e R s m args below meth c H locs cells slots mc ms (F0 m pc ls st0) rest (g_Qi G base σ post a) (g_XC G base τ1 PX) (g_A base)) (hG : gw G base H0 τ H locs)
    (kx : ∀ (E : String) (ce : Cell) (q9 : Addr) (H1 : Heap) (locs1 : List Loc), PX E → gw G base H0 τ1 H1 locs1 → H1[q9]? = some ce → ce.vm = .none → s.vm.findClass E = some ce.cls → vx_W p l e R s m args below meth c H1 locs1 (cells + mc) (slots + ms) Q (F0 m pc ls rest) q9)
    (kk : ∀ (r : Int32) (u : S) (H1 : Heap) (locs1 : List Loc), post r u → gw G base H0 (σ u) H1 locs1 → W p l e R s m args below meth c H1 locs1 (cells + mc) (slots + ms) Q (F0 m (pc + 3) ls (.int r :: rest))) : W p l e R s m args below meth c H locs cells slots Q (F0 m pc ls st0) :=
  vx_calli hr hG.2.2.1 (fun _ _ h => h) (fun _ h => h) (fun _ _ h => h) (fun E ce q9 u t H1 locs1 ht _ _ hB _ _ hS hce hcv hcl => kx E ce q9 H1 locs1 hB.1 ⟨by rw [← ht]; exact hB.2.1, hB.2.2, hS, hG.2.2.2⟩ hce hcv hcl)
    (fun r u t H1 locs1 ht _ hp hB _ _ hS => kk r u H1 locs1 hp ⟨by rw [← ht]; exact hB.1, hB.2, hS, hG.2.2.2⟩)
theorem g_xl {post : Int64 → S → Prop} (hr : vx_Run p l e R s m args below meth c H locs cells slots mc ms (F0 m pc ls st0) rest (g_Ql G base σ post a) (g_XC G base τ1 PX) (g_A base)) (hG : gw G base H0 τ H locs)
    (kx : ∀ (E : String) (ce : Cell) (q9 : Addr) (H1 : Heap) (locs1 : List Loc), PX E → gw G base H0 τ1 H1 locs1 → H1[q9]? = some ce → ce.vm = .none → s.vm.findClass E = some ce.cls → vx_W p l e R s m args below meth c H1 locs1 (cells + mc) (slots + ms) Q (F0 m pc ls rest) q9)
    (kk : ∀ (r : Int64) (u : S) (H1 : Heap) (locs1 : List Loc), post r u → gw G base H0 (σ u) H1 locs1 → W p l e R s m args below meth c H1 locs1 (cells + mc) (slots + ms) Q (F0 m (pc + 3) ls (.long r :: rest))) : W p l e R s m args below meth c H locs cells slots Q (F0 m pc ls st0) :=
  vx_calll hr hG.2.2.1 (fun _ _ h => h) (fun _ h => h) (fun _ _ h => h) (fun E ce q9 u t H1 locs1 ht _ _ hB _ _ hS hce hcv hcl => kx E ce q9 H1 locs1 hB.1 ⟨by rw [← ht]; exact hB.2.1, hB.2.2, hS, hG.2.2.2⟩ hce hcv hcl)
    (fun r u t H1 locs1 ht _ hp hB _ _ hS => kk r u H1 locs1 hp ⟨by rw [← ht]; exact hB.1, hB.2, hS, hG.2.2.2⟩)
theorem g_xv {post : S → Prop} (hr : vx_Run p l e R s m args below meth c H locs cells slots mc ms (F0 m pc ls st0) rest (g_Qv G base σ post a) (g_XC G base τ1 PX) (g_A base)) (hG : gw G base H0 τ H locs)
    (kx : ∀ (E : String) (ce : Cell) (q9 : Addr) (H1 : Heap) (locs1 : List Loc), PX E → gw G base H0 τ1 H1 locs1 → H1[q9]? = some ce → ce.vm = .none → s.vm.findClass E = some ce.cls → vx_W p l e R s m args below meth c H1 locs1 (cells + mc) (slots + ms) Q (F0 m pc ls rest) q9)
    (kk : ∀ (u : S) (H1 : Heap) (locs1 : List Loc), post u → gw G base H0 (σ u) H1 locs1 → W p l e R s m args below meth c H1 locs1 (cells + mc) (slots + ms) Q (F0 m (pc + 3) ls rest)) : W p l e R s m args below meth c H locs cells slots Q (F0 m pc ls st0) :=
  vx_callv hr hG.2.2.1 (fun _ _ h => h) (fun _ h => h) (fun _ _ h => h) (fun E ce q9 u t H1 locs1 ht _ _ hB _ _ hS hce hcv hcl => kx E ce q9 H1 locs1 hB.1 ⟨by rw [← ht]; exact hB.2.1, hB.2.2, hS, hG.2.2.2⟩ hce hcv hcl)
    (fun u t H1 locs1 ht _ hp hB _ _ hS => kk u H1 locs1 hp ⟨by rw [← ht]; exact hB.1, hB.2, hS, hG.2.2.2⟩)
theorem g_xr {post : Nat → S → Prop} (hr : vx_Run p l e R s m args below meth c H locs cells slots mc ms (F0 m pc ls st0) rest (g_Qr G base σ post a) (g_XC G base τ1 PX) (g_A base)) (hG : gw G base H0 τ H locs)
    (kx : ∀ (E : String) (ce : Cell) (q9 : Addr) (H1 : Heap) (locs1 : List Loc), PX E → gw G base H0 τ1 H1 locs1 → H1[q9]? = some ce → ce.vm = .none → s.vm.findClass E = some ce.cls → vx_W p l e R s m args below meth c H1 locs1 (cells + mc) (slots + ms) Q (F0 m pc ls rest) q9)
    (kk : ∀ (r : Nat) (u : S) (H1 : Heap) (locs1 : List Loc), post r u → gw G base H0 (σ u) H1 locs1 → W p l e R s m args below meth c H1 locs1 (cells + mc) (slots + ms) Q (F0 m (pc + 3) ls (.ref r :: rest))) : W p l e R s m args below meth c H locs cells slots Q (F0 m pc ls st0) := by
  intro T hT X
  rcases hr T hT X with ⟨v, st₀, t, T', L, h0, X', hL, e1, e2, ⟨⟨r, u, hv, hp, hb⟩, hF⟩, st⟩ | ⟨q, st₀, t, T', L, E, ce, h0, X', hL, e1, e2, ⟨u, _, hb, hF⟩, hce, hcv, hcl, st⟩
  · cases hv
    obtain ⟨k1, k2, k3⟩ := vx_keep h0 e1 hG.2.2.1 (fun _ _ h => h) (fun _ h => h) hL hF
    obtain ⟨t2, a1, b1⟩ := kk r u T'.heap (locs ++ L) hp ⟨by rw [e1]; exact hb.1, hb.2, k3, hG.2.2.2⟩ T' rfl X'
    exact ⟨t2, st t2 a1, b1⟩
  · obtain ⟨k1, k2, k3⟩ := vx_keep h0 e1 hG.2.2.1 (fun _ _ h => h) (fun _ h => h) hL hF
    obtain ⟨t2, a1, b1⟩ := kx E ce q T'.heap (locs ++ L) hb.1 ⟨by rw [e1]; exact hb.2.1, hb.2.2, k3, hG.2.2.2⟩ (by rw [e1]; exact hce) hcv hcl T' rfl X'
    exact ⟨t2, st.trans a1, b1⟩
end GX
end GC
section GPX
variable {G : gG} {base : Nat} {H : Heap} {L : List Nat} {K n : Nat → Nat} {rI : Nat → Nat → Int32} {rJ : Nat → Nat → Int64} {rQ : Nat → Nat → Option Nat} {fI : Nat → Nat → Int32} {fR : Nat → Nat → Option Nat} {locs : List Loc} {s : State} {As : List Value} {b : Nat}
theorem g_px2 (hK : g_K G s) (hX : g_X base s) (hG : gw G base s.heap (L, K, n, rI, rJ, rQ, fI, fR) H locs) (hL : b ∈ L) (hk : K b = 2) : PreV s H RX2 b (va_Pc (.ref b :: As) (g_Px G base (L, K, n, rI, rJ, rQ, fI, fR))) As := ⟨g_blindx, g_rv2 hK hG hL hk, (g_psx hK hX hG).2⟩
end GPX
theorem g_start {p : Program} {l : Launch} {e : Env} {R : Room} {s : State} {m : MethodId} {args : Array Value} {below : List Frame} {meth : Method} {c : Code} {Q : State → Prop} {G : gG} {base : Nat} {τ : gS} {g : JFrame} (hPr : g_Pr G base τ s)
    (k : ∀ (H : Heap) (locs : List Loc), gw G base s.heap τ H locs → W p l e R s m args below meth c H locs 0 0 Q g) : W p l e R s m args below meth c s.heap [] 0 0 Q g := k _ _ hPr.gw
end
section
/-! ===== Int32 by its bits: bt x i ===== -/
def bt (x : Int32) (i : Nat) : Bool := x.toBitVec.getLsbD i
theorem b_ext {x y : Int32} (h : ∀ i, i < 32 → bt x i = bt y i) : x = y := Int32.toBitVec_inj.mp (BitVec.eq_of_getLsbD_eq (fun i hi => h i hi))
theorem b_or (x y : Int32) (i : Nat) : bt (x ||| y) i = (bt x i || bt y i) := by unfold bt; rw [Int32.toBitVec_or, BitVec.getLsbD_or]
theorem b_and (x y : Int32) (i : Nat) : bt (x &&& y) i = (bt x i && bt y i) := by unfold bt; rw [Int32.toBitVec_and, BitVec.getLsbD_and]
theorem b_xor (x y : Int32) (i : Nat) : bt (x ^^^ y) i = (bt x i ^^ bt y i) := by unfold bt; rw [Int32.toBitVec_xor, BitVec.getLsbD_xor]
theorem b_big {x : Int32} {i : Nat} (h : 32 ≤ i) : bt x i = false := BitVec.getLsbD_of_ge _ _ h
theorem b_255 (i : Nat) : bt 255 i = decide (i < 8) := by
  rcases Nat.lt_or_ge i 32 with h | h
  · exact (by decide +kernel : ∀ i, i < 32 → bt 255 i = decide (i < 8)) i h
  · rw [b_big h, decide_eq_false (by omega)]
theorem b_65535 (i : Nat) : bt 65535 i = decide (i < 16) := by
  rcases Nat.lt_or_ge i 32 with h | h
  · exact (by decide +kernel : ∀ i, i < 32 → bt 65535 i = decide (i < 16)) i h
  · rw [b_big h, decide_eq_false (by omega)]
theorem b_m1 : ∀ i, i < 32 → bt (-1) i = true := by decide +kernel
theorem b_0 (i : Nat) : bt 0 i = false := BitVec.getLsbD_zero
theorem s_l : ∀ n, n < 32 → ((nI n &&& 31).toBitVec.smod 32).toNat = n := by decide +kernel
theorem s_u : ∀ n, n < 32 → (((nI n).toUInt32 &&& Int32.toUInt32 31).toBitVec % 32).toNat = n := by decide +kernel
theorem b_shl (n : Nat) (hn : n < 32) (x : Int32) {i : Nat} (hi : i < 32) : bt (x <<< (nI n &&& 31)) i = (decide (n ≤ i) && bt x (i - n)) := by
  unfold bt
  rw [Int32.toBitVec_shiftLeft]
  show (x.toBitVec <<< ((nI n &&& 31).toBitVec.smod 32).toNat).getLsbD i = _
  rw [s_l n hn, BitVec.getLsbD_shiftLeft]
  rcases Nat.lt_or_ge i n with h | h
  · simp [h, Nat.not_le.mpr h]
  · simp [hi, h, Nat.not_lt.mpr h]
theorem b_ushr (n : Nat) (hn : n < 32) (x : Int32) (i : Nat) : bt ((x.toUInt32 >>> ((nI n).toUInt32 &&& Int32.toUInt32 31)).toInt32) i = bt x (n + i) := by
  show (x.toUInt32 >>> ((nI n).toUInt32 &&& Int32.toUInt32 31)).toBitVec.getLsbD i = x.toUInt32.toBitVec.getLsbD (n + i)
  rw [UInt32.toBitVec_shiftRight]
  show (x.toUInt32.toBitVec >>> (((nI n).toUInt32 &&& Int32.toUInt32 31).toBitVec % 32).toNat).getLsbD i = _
  rw [s_u n hn, BitVec.getLsbD_ushiftRight]
theorem b_sshr (n : Nat) (hn : n < 32) (x : Int32) {i : Nat} (hi : i < 32) : bt (x >>> (nI n &&& 31)) i = if n + i < 32 then bt x (n + i) else bt x 31 := by
  unfold bt
  rw [Int32.toBitVec_shiftRight]
  show (x.toBitVec.sshiftRight ((nI n &&& 31).toBitVec.smod 32).toNat).getLsbD i = _
  rw [s_l n hn, BitVec.getLsbD_sshiftRight, BitVec.msb_eq_getLsbD_last]
  simp [hi]
theorem b_shl8 (x : Int32) {i : Nat} (hi : i < 32) : bt (x <<< ((8 : Int32) &&& 31)) i = (decide (8 ≤ i) && bt x (i - 8)) := b_shl 8 (by omega) x hi
theorem b_shl16 (x : Int32) {i : Nat} (hi : i < 32) : bt (x <<< ((16 : Int32) &&& 31)) i = (decide (16 ≤ i) && bt x (i - 16)) := b_shl 16 (by omega) x hi
theorem b_shl24 (x : Int32) {i : Nat} (hi : i < 32) : bt (x <<< ((24 : Int32) &&& 31)) i = (decide (24 ≤ i) && bt x (i - 24)) := b_shl 24 (by omega) x hi
theorem b_sshr8 (x : Int32) {i : Nat} (hi : i < 32) : bt (x >>> ((8 : Int32) &&& 31)) i = if 8 + i < 32 then bt x (8 + i) else bt x 31 := b_sshr 8 (by omega) x hi
/-! ===== Int32 as a set of bits: test, set ===== -/
def nf_M (m : Int32) : Nat := 4294967296 - m.toBitVec.toNat
theorem nf_sh : ∀ l, l < 32 → ((1 : Int32) <<< (nI l &&& 31)).toBitVec = BitVec.twoPow 32 l := by decide +kernel
theorem nf_sl : ∀ l, l < 32 → (((nI l).toUInt32 &&& Int32.toUInt32 31).toBitVec % 32).toNat = l := by decide +kernel
theorem nf_tp : ∀ l, l < 32 → BitVec.twoPow 32 l ≠ 0#32 := by decide +kernel
theorem nf_bit (m : Int32) (l : Nat) (hl : l < 32) : ((m.toUInt32 >>> ((nI l).toUInt32 &&& Int32.toUInt32 31)).toInt32 &&& 1) = 0 ↔ (m &&& ((1 : Int32) <<< (nI l &&& 31))) = 0 := by
  have e : ((m.toUInt32 >>> ((nI l).toUInt32 &&& Int32.toUInt32 31)).toInt32).toBitVec = m.toBitVec >>> l := by
    show m.toBitVec >>> (((nI l).toUInt32 &&& Int32.toUInt32 31).toBitVec % 32) = m.toBitVec >>> l
    rw [BitVec.ushiftRight_eq', nf_sl l hl]
  rw [← Int32.toBitVec_inj, ← Int32.toBitVec_inj, Int32.toBitVec_and, Int32.toBitVec_and, nf_sh l hl, e, BitVec.and_twoPow]
  show (m.toBitVec >>> l &&& 1#32) = 0#32 ↔ _ = 0#32
  rw [BitVec.and_one_eq_setWidth_ofBool_getLsbD, BitVec.getLsbD_ushiftRight, Nat.add_zero]
  cases hb : m.toBitVec.getLsbD l
  · exact ⟨fun _ => by simp, fun _ => by decide⟩
  · exact ⟨fun z => absurd z (by decide), fun z => absurd ((if_pos rfl).symm.trans z) (nf_tp l hl)⟩
/-! ===== Int64 as a set of bits: test, set, clear ===== -/
theorem ts_nf {x : Bool} (h : ¬ x = false) : x = true := by cases x <;> first | rfl | exact absurd rfl h
theorem ts_nt {x : Bool} (h : ¬ x = true) : x = false := by cases x <;> first | rfl | exact absurd rfl h
theorem ts_bit {w : Int64} {s : UInt64} {j : Nat} (hj : j < 64) (hs : s.toNat = j) : ((w.toUInt64 >>> s).toInt64 &&& 1) = 0 ↔ w.toBitVec.getLsbD j = false := by
  have e : (w.toUInt64 >>> s).toInt64.toBitVec = w.toBitVec >>> j := by
    apply BitVec.eq_of_toNat_eq
    show (w.toUInt64 >>> s).toNat = _
    rw [UInt64.toNat_shiftRight, hs, Nat.mod_eq_of_lt hj, BitVec.toNat_ushiftRight]
    rfl
  rw [← Int64.toBitVec_inj, Int64.toBitVec_and, e]
  show w.toBitVec >>> j &&& 1#64 = 0#64 ↔ _
  constructor
  · intro h
    have t := congrArg (fun x => x.getLsbD 0) h
    simpa using t
  · intro h
    apply BitVec.eq_of_getLsbD_eq
    intro i hi
    cases i with
    | zero => simp [h]
    | succ i => simp
theorem ts_or {w m : Int64} {j : Nat} (hj : j < 64) (hm : m.toBitVec = BitVec.twoPow 64 j) : (w ||| m) = w ↔ w.toBitVec.getLsbD j = true := by
  rw [← Int64.toBitVec_inj, Int64.toBitVec_or, hm]
  constructor
  · intro h
    have t := congrArg (fun x => x.getLsbD j) h
    simp only [BitVec.getLsbD_or, BitVec.getLsbD_twoPow] at t
    simpa [hj] using t.symm
  · intro h
    apply BitVec.eq_of_getLsbD_eq
    intro i hi
    rw [BitVec.getLsbD_or, BitVec.getLsbD_twoPow]
    by_cases e : j = i
    · subst e; rw [h, Bool.true_or]
    · simp [e]
theorem ts_and {w m : Int64} {j : Nat} (hj : j < 64) (hm : m.toBitVec = BitVec.twoPow 64 j) : (w &&& (m ^^^ (-1))) = w ↔ w.toBitVec.getLsbD j = false := by
  have ha : (-1 : Int64).toBitVec = BitVec.allOnes 64 := by decide
  rw [← Int64.toBitVec_inj, Int64.toBitVec_and, Int64.toBitVec_xor, hm, ha]
  constructor
  · intro h
    have t := congrArg (fun x => x.getLsbD j) h
    simp only [BitVec.getLsbD_and, BitVec.getLsbD_xor, BitVec.getLsbD_twoPow, BitVec.getLsbD_allOnes] at t
    simpa [hj] using t.symm
  · intro h
    apply BitVec.eq_of_getLsbD_eq
    intro i hi
    rw [BitVec.getLsbD_and, BitVec.getLsbD_xor, BitVec.getLsbD_twoPow, BitVec.getLsbD_allOnes]
    by_cases e : j = i
    · subst e; rw [h, Bool.false_and]
    · simp [e, hi]
/-! ===== lN n to 2^64: shifts, and, or, masks, one bit ===== -/
theorem wb_tb (n : Nat) : (lN n).toBitVec = BitVec.ofNat 64 n := rfl
theorem wb_inj {a b : Int64} (h : a.toBitVec = b.toBitVec) : a = b := Int64.toBitVec_inj.mp h
theorem wb_tn {n : Nat} (h : n < 2 ^ 64) : (lN n).toBitVec.toNat = n := by rw [wb_tb, BitVec.toNat_ofNat, Nat.mod_eq_of_lt h]
theorem wb_of (x : Int64) : ∃ n, n < 2 ^ 64 ∧ x = lN n := ⟨x.toBitVec.toNat, x.toBitVec.isLt, wb_inj (by rw [wb_tb]; simp)⟩
theorem wb_of32 (x : Int32) : ∃ n, n < 2 ^ 32 ∧ x = nI n := ⟨x.toBitVec.toNat, x.toBitVec.isLt, Int32.toBitVec_inj.mp (by show _ = BitVec.ofNat 32 _; simp)⟩
theorem wb_c : ∀ k, k < 64 → ((nI k).toInt64 &&& 63) = lN k := by decide +kernel
theorem wb_cu : ∀ k, k < 64 → ((nI k).toInt64.toUInt64 &&& Int64.toUInt64 63) = UInt64.ofNat k := by decide +kernel
theorem wb_sm : ∀ k, k < 64 → (BitVec.ofNat 64 k).smod 64 = BitVec.ofNat 64 k := by decide +kernel
theorem wb_pw {a b : Nat} (h : a ≤ b) : 2 ^ b = 2 ^ a * 2 ^ (b - a) := by rw [← Nat.pow_add]; congr 1; omega
theorem wb_lt2 {a b : Nat} (h : a < b) : 2 ^ a < 2 ^ b := Nat.pow_lt_pow_right (by decide) h
theorem wb_mod (n : Nat) : lN n = lN (n % 2 ^ 64) := wb_inj (by rw [wb_tb, wb_tb]; apply BitVec.eq_of_toNat_eq; rw [BitVec.toNat_ofNat, BitVec.toNat_ofNat, Nat.mod_mod])
theorem wb_shr {n k : Nat} (hn : n < 2 ^ 64) (hk : k < 64) : ((lN n).toUInt64 >>> ((nI k).toInt64.toUInt64 &&& Int64.toUInt64 63)).toInt64 = lN (n / 2 ^ k) := by
  rw [wb_cu k hk]
  apply wb_inj
  apply BitVec.eq_of_toNat_eq
  show ((lN n).toUInt64 >>> UInt64.ofNat k).toNat = (BitVec.ofNat 64 _).toNat
  have h1 : (UInt64.ofNat k).toNat = k := by
    show (BitVec.ofNat 64 k).toNat = k
    rw [BitVec.toNat_ofNat, Nat.mod_eq_of_lt (by omega)]
  have h2 : (lN n).toUInt64.toNat = n := wb_tn hn
  rw [UInt64.toNat_shiftRight, h1, h2, Nat.mod_eq_of_lt hk, Nat.shiftRight_eq_div_pow, BitVec.toNat_ofNat, Nat.mod_eq_of_lt (Nat.lt_of_le_of_lt (Nat.div_le_self _ _) hn)]
theorem wb_shl (n : Nat) {k : Nat} (hk : k < 64) : lN n <<< ((nI k).toInt64 &&& 63) = lN (n * 2 ^ k) := by
  rw [wb_c k hk]
  apply wb_inj
  rw [Int64.toBitVec_shiftLeft, wb_tb, wb_tb, wb_tb, wb_sm k hk]
  apply BitVec.eq_of_toNat_eq
  rw [BitVec.shiftLeft_eq', BitVec.toNat_shiftLeft, BitVec.toNat_ofNat, BitVec.toNat_ofNat, BitVec.toNat_ofNat, Nat.mod_eq_of_lt (show k < 2 ^ 64 by omega), Nat.shiftLeft_eq, Nat.mul_mod, Nat.mod_mod, ← Nat.mul_mod]
theorem wb_and {a b : Nat} (ha : a < 2 ^ 64) (hb : b < 2 ^ 64) : lN a &&& lN b = lN (a &&& b) := by
  apply wb_inj
  rw [Int64.toBitVec_and, wb_tb, wb_tb, wb_tb]
  apply BitVec.eq_of_toNat_eq
  rw [BitVec.toNat_and, BitVec.toNat_ofNat, BitVec.toNat_ofNat, BitVec.toNat_ofNat, Nat.mod_eq_of_lt ha, Nat.mod_eq_of_lt hb, Nat.mod_eq_of_lt (Nat.and_lt_two_pow _ hb)]
theorem wb_or {a b : Nat} (ha : a < 2 ^ 64) (hb : b < 2 ^ 64) : lN a ||| lN b = lN (a ||| b) := by
  apply wb_inj
  rw [Int64.toBitVec_or, wb_tb, wb_tb, wb_tb]
  apply BitVec.eq_of_toNat_eq
  rw [BitVec.toNat_or, BitVec.toNat_ofNat, BitVec.toNat_ofNat, BitVec.toNat_ofNat, Nat.mod_eq_of_lt ha, Nat.mod_eq_of_lt hb, Nat.mod_eq_of_lt (Nat.or_lt_two_pow ha hb)]
theorem wb_mask {n k : Nat} (hn : n < 2 ^ 64) (hk : k < 64) : lN n &&& lN (2 ^ k - 1) = lN (n % 2 ^ k) := by
  rw [wb_and hn (by have := wb_lt2 hk; omega), Nat.and_two_pow_sub_one_eq_mod]
theorem wb_a1 {n : Nat} (hn : n < 2 ^ 64) : lN n &&& 1 = lN (n % 2) := wb_mask (k := 1) hn (by decide)
theorem wb_bit {n k : Nat} (hn : n < 2 ^ 64) (hk : k < 64) : ((lN n).toUInt64 >>> ((nI k).toInt64.toUInt64 &&& Int64.toUInt64 63)).toInt64 &&& 1 = lN (n / 2 ^ k % 2) := by
  rw [wb_shr hn hk, wb_a1 (Nat.lt_of_le_of_lt (Nat.div_le_self _ _) hn)]
theorem wb_xor {q k : Nat} (hk : k < 63) (h : 2 ^ k ≤ q) (h2 : q < 2 ^ (k + 1)) : lN q ^^^ lN (2 ^ k) = lN (q - 2 ^ k) := by
  obtain ⟨r, rfl⟩ : ∃ r, q = 2 ^ k + r := ⟨q - 2 ^ k, by omega⟩
  have hr : r < 2 ^ k := by rw [Nat.pow_succ] at h2; omega
  have hx : (2 ^ k + r) ^^^ 2 ^ k = r := by
    apply Nat.eq_of_testBit_eq
    intro i
    rw [Nat.testBit_xor, Nat.testBit_two_pow]
    rcases Nat.lt_trichotomy i k with h | h | h
    · rw [Nat.testBit_two_pow_add_gt h]
      simp [show ¬ k = i by omega]
    · subst h
      rw [Nat.testBit_two_pow_add_eq]
      simp
    · have a1 : 2 ^ (k + 1) ≤ 2 ^ i := Nat.pow_le_pow_right (by decide) h
      rw [Nat.testBit_lt_two_pow (show 2 ^ k + r < 2 ^ i by omega), Nat.testBit_lt_two_pow (show r < 2 ^ i by omega)]
      simp [show ¬ k = i by omega]
  have b1 := wb_lt2 (show k + 1 < 64 by omega)
  have b2 := wb_lt2 (show k < 64 by omega)
  apply wb_inj
  rw [Int64.toBitVec_xor, wb_tb, wb_tb, wb_tb]
  apply BitVec.eq_of_toNat_eq
  rw [BitVec.toNat_xor, BitVec.toNat_ofNat, BitVec.toNat_ofNat, BitVec.toNat_ofNat, Nat.mod_eq_of_lt (by omega : 2 ^ k + r < 2 ^ 64), Nat.mod_eq_of_lt b2, hx, Nat.add_sub_cancel_left, Nat.mod_eq_of_lt (by omega)]
/-! my own: an Int64 by its bits -/
def lb (w : Int64) (j : Nat) : Bool := w.toBitVec.getLsbD j
theorem lb_ext {x y : Int64} (h : ∀ i, i < 64 → lb x i = lb y i) : x = y := Int64.toBitVec_inj.mp (BitVec.eq_of_getLsbD_eq (fun i hi => h i hi))
theorem lb_or (x y : Int64) (i : Nat) : lb (x ||| y) i = (lb x i || lb y i) := by unfold lb; rw [Int64.toBitVec_or, BitVec.getLsbD_or]
theorem lb_and (x y : Int64) (i : Nat) : lb (x &&& y) i = (lb x i && lb y i) := by unfold lb; rw [Int64.toBitVec_and, BitVec.getLsbD_and]
theorem lb_xor (x y : Int64) (i : Nat) : lb (x ^^^ y) i = (lb x i ^^ lb y i) := by unfold lb; rw [Int64.toBitVec_xor, BitVec.getLsbD_xor]
theorem lb_m1 : ∀ i, i < 64 → lb (-1) i = true := by decide +kernel
theorem lb_not (x : Int64) {i : Nat} (hi : i < 64) : lb (x ^^^ (-1)) i = !lb x i := by rw [lb_xor, lb_m1 i hi]; simp
theorem lb_0 (i : Nat) : lb 0 i = false := BitVec.getLsbD_zero
theorem lb_big {x : Int64} {i : Nat} (h : 64 ≤ i) : lb x i = false := BitVec.getLsbD_of_ge _ _ h
theorem lb_tp : ∀ k, k < 64 → ((1 : Int64) <<< ((nI k).toInt64 &&& 63)).toBitVec = BitVec.twoPow 64 k := by decide +kernel
theorem lb_one {k : Nat} (hk : k < 64) (i : Nat) : lb ((1 : Int64) <<< ((nI k).toInt64 &&& 63)) i = decide (i = k) := by
  unfold lb
  rw [lb_tp k hk, BitVec.getLsbD_twoPow]
  by_cases h : i = k
  · subst h; simp [hk]
  · simp [h, Ne.symm h]
theorem lb_test {w : Int64} {k : Nat} (hk : k < 64) : ((w.toUInt64 >>> ((nI k).toInt64.toUInt64 &&& Int64.toUInt64 63)).toInt64 &&& 1) = 0 ↔ lb w k = false :=
  ts_bit hk (by rw [wb_cu k hk]; exact Nat.mod_eq_of_lt (by omega))
theorem lb_sh : ∀ k, k < 64 → ((nI k).toInt64 &&& 63).toBitVec.smod 64 = BitVec.ofNat 64 k := by decide +kernel
theorem lb_shr {w : Int64} {k : Nat} (hk : k < 64) : lb (w >>> ((nI k).toInt64 &&& 63)) 0 = lb w k := by
  unfold lb
  rw [Int64.toBitVec_shiftRight, BitVec.sshiftRight_eq', lb_sh k hk, BitVec.toNat_ofNat, Nat.mod_eq_of_lt (by omega), BitVec.getLsbD_sshiftRight]
  simp [hk]
theorem lb_and1 (w : Int64) : w &&& 1 = if lb w 0 then 1 else 0 := by
  apply lb_ext
  intro i hi
  rw [lb_and]
  by_cases h0 : i = 0
  · subst h0
    cases h : lb w 0
    · simp [lb_0]
    · simp
  · have h1 : lb 1 i = false := (show ∀ i, i < 64 → i ≠ 0 → lb 1 i = false by decide +kernel) i hi h0
    rw [h1]
    cases h : lb w 0
    · simp [lb_0]
    · simp [h1]
theorem lb_testS {w : Int64} {k : Nat} (hk : k < 64) : ((w >>> ((nI k).toInt64 &&& 63)) &&& 1) = if lb w k then 1 else 0 := by
  rw [lb_and1, lb_shr hk]
/-- a bit in a row of words -/
def rb (f : Nat → Int64) (i : Nat) : Bool := lb (f (i / 64)) (i % 64)
def bi (b : Bool) : Int32 := if b then 1 else 0
theorem bi_nar (b : Bool) : narrow .boolean (.int (bi b)) = .int (bi b) := by cases b <;> rfl
theorem bi_0 {b : Bool} : bi b = 0 ↔ b = false := by cases b <;> simp [bi]
theorem bi_1 {b : Bool} : bi b = 1 ↔ b = true := by cases b <;> simp [bi]
end
section
/-! copies of whole rows, and new cells -/
def g_cp {α : Type} (f : Nat → Nat → α) (a0 a N : Nat) : Nat → Nat → α := fun b j => if b = a ∧ j < N then f a0 j else f b j
theorem g_cp_same {α : Type} (f : Nat → Nat → α) (a0 a N : Nat) : g_cp f a0 a N a = fun j => if j < N then f a0 j else f a j := by
  funext j; simp [g_cp]
theorem g_cp_other {α : Type} (f : Nat → Nat → α) (a0 : Nat) {a b : Nat} (N : Nat) (h : ¬ b = a) : g_cp f a0 a N b = f b := by
  funext j; simp [g_cp, h]
theorem g_cp_at {α : Type} (f : Nat → Nat → α) (a0 a : Nat) {N j : Nat} (h : j < N) : g_cp f a0 a N a j = f a0 j := by simp [g_cp, h]
theorem g_cp_b {α : Type} (f : Nat → Nat → α) (a0 : Nat) {a b : Nat} (N j : Nat) (h : b ≠ a) : g_cp f a0 a N b j = f b j := by simp [g_cp, h]
theorem g_cpy {α : Type} (f g : Nat → α) (N : Nat) : va_cpy f g 0 0 N = fun j => if j < N then f j else g j := by
  funext j; simp [va_cpy]
theorem up_l {L : List Nat} {q b : Nat} (h : b ∈ L) : b ∈ L ++ [q] := List.mem_append_left _ h
theorem up_q {L : List Nat} {q : Nat} : q ∈ L ++ [q] := List.mem_append_right _ (List.mem_singleton.mpr rfl)
theorem up_ne {L : List Nat} {q b : Nat} (hq : q ∉ L) (hb : b ∈ L) : b ≠ q := fun e => hq (e ▸ hb)
theorem up_k {α : Type} {L : List Nat} {q b : Nat} {f : Nat → α} {x y : α} (hq : q ∉ L) (hb : b ∈ L) (h : f b = y) : va_up f q x b = y := by rw [va_up_ne _ _ (up_ne hq hb)]; exact h
theorem up_f {α : Type} {L : List Nat} {q b i : Nat} {f : Nat → Nat → α} {x : Nat → α} {y : α} (hq : q ∉ L) (hb : b ∈ L) (h : f b i = y) : va_up f q x b i = y := by rw [va_up_ne _ _ (up_ne hq hb)]; exact h
theorem g_v4 (G : gG) {K n : Nat → Nat} {rI : Nat → Nat → Int32} {rJ : Nat → Nat → Int64} {rQ : Nat → Nat → Option Nat} {fI : Nat → Nat → Int32} {fR : Nat → Nat → Option Nat} {a : Nat} (h : K a = 4) (a0 N b : Nat) : va_up (g_F G K n rI rJ rQ fI fR) a (.inl (G.2.1, n a, .inl (va_cpy (rI a0) (rI a) 0 0 N))) b = g_F G K n (g_cp rI a0 a N) rJ rQ fI fR b := by
  by_cases hb : b = a
  · subst hb; simp [g_F, h, va_up, g_cp_same, g_cpy]
  · simp [g_F, va_up, g_cp_other _ _ _ hb, hb]
theorem g_v5 (G : gG) {K n : Nat → Nat} {rI : Nat → Nat → Int32} {rJ : Nat → Nat → Int64} {rQ : Nat → Nat → Option Nat} {fI : Nat → Nat → Int32} {fR : Nat → Nat → Option Nat} {a : Nat} (h : K a = 5) (a0 N b : Nat) : va_up (g_F G K n rI rJ rQ fI fR) a (.inl (G.2.2.1, n a, .inr (.inl (va_cpy (rJ a0) (rJ a) 0 0 N)))) b = g_F G K n rI (g_cp rJ a0 a N) rQ fI fR b := by
  by_cases hb : b = a
  · subst hb; simp [g_F, h, va_up, g_cp_same, g_cpy]
  · simp [g_F, va_up, g_cp_other _ _ _ hb, hb]
theorem g_n4 (G : gG) {K n : Nat → Nat} {rI : Nat → Nat → Int32} {rJ : Nat → Nat → Int64} {rQ : Nat → Nat → Option Nat} {fI : Nat → Nat → Int32} {fR : Nat → Nat → Option Nat} (q N b : Nat) : va_up (g_F G K n rI rJ rQ fI fR) q (.inl (G.2.1, N, .inl (fun _ => 0))) b = g_F G (va_up K q 4) (va_up n q N) (va_up rI q (fun _ => 0)) rJ rQ fI fR b := by
  by_cases hb : b = q
  · subst hb; simp [g_F, va_up]
  · simp [g_F, va_up, hb]
theorem g_n5 (G : gG) {K n : Nat → Nat} {rI : Nat → Nat → Int32} {rJ : Nat → Nat → Int64} {rQ : Nat → Nat → Option Nat} {fI : Nat → Nat → Int32} {fR : Nat → Nat → Option Nat} (q N b : Nat) : va_up (g_F G K n rI rJ rQ fI fR) q (.inl (G.2.2.1, N, .inr (.inl (fun _ => 0)))) b = g_F G (va_up K q 5) (va_up n q N) rI (va_up rJ q (fun _ => 0)) rQ fI fR b := by
  by_cases hb : b = q
  · subst hb; simp [g_F, va_up]
  · simp [g_F, va_up, hb]
theorem g_n6 (G : gG) {K n : Nat → Nat} {rI : Nat → Nat → Int32} {rJ : Nat → Nat → Int64} {rQ : Nat → Nat → Option Nat} {fI : Nat → Nat → Int32} {fR : Nat → Nat → Option Nat} (q N b : Nat) : va_up (g_F G K n rI rJ rQ fI fR) q (.inl (G.2.2.2.1, N, .inl (fun _ => 0))) b = g_F G (va_up K q 6) (va_up n q N) (va_up rI q (fun _ => 0)) rJ rQ fI fR b := by
  by_cases hb : b = q
  · subst hb; simp [g_F, va_up]
  · simp [g_F, va_up, hb]
theorem g_n7 (G : gG) {K n : Nat → Nat} {rI : Nat → Nat → Int32} {rJ : Nat → Nat → Int64} {rQ : Nat → Nat → Option Nat} {fI : Nat → Nat → Int32} {fR : Nat → Nat → Option Nat} (q N b : Nat) : va_up (g_F G K n rI rJ rQ fI fR) q (.inl (G.2.2.2.2, N, .inr (.inr (.inr (.inr (fun _ => none)))))) b = g_F G (va_up K q 7) (va_up n q N) rI rJ (va_up rQ q (fun _ => none)) fI fR b := by
  by_cases hb : b = q
  · subst hb; simp [g_F, va_up]
  · simp [g_F, va_up, hb]
theorem g_n0 (G : gG) {K n : Nat → Nat} {rI : Nat → Nat → Int32} {rJ : Nat → Nat → Int64} {rQ : Nat → Nat → Option Nat} {fI : Nat → Nat → Int32} {fR : Nat → Nat → Option Nat} (q b : Nat) : va_up (g_F G K n rI rJ rQ fI fR) q (.inr (0, [.null, .null, .null, .null, .null, .null, .int 0])) b = g_F G (va_up K q 0) n rI rJ rQ (va_up fI q (fun _ => 0)) (va_up fR q (fun _ => none)) b := by
  by_cases hb : b = q
  · subst hb; simp [g_F, va_up, show va_rf none = Value.null from rfl]
  · simp [g_F, va_up, hb]
theorem g_n1 (G : gG) {K n : Nat → Nat} {rI : Nat → Nat → Int32} {rJ : Nat → Nat → Int64} {rQ : Nat → Nat → Option Nat} {fI : Nat → Nat → Int32} {fR : Nat → Nat → Option Nat} (q b : Nat) : va_up (g_F G K n rI rJ rQ fI fR) q (.inr (1, [.null, .null, .null, .int 0, .int 0])) b = g_F G (va_up K q 1) n rI rJ rQ (va_up fI q (fun _ => 0)) (va_up fR q (fun _ => none)) b := by
  by_cases hb : b = q
  · subst hb; simp [g_F, va_up, show va_rf none = Value.null from rfl]
  · simp [g_F, va_up, hb]
theorem g_n2 (G : gG) {K n : Nat → Nat} {rI : Nat → Nat → Int32} {rJ : Nat → Nat → Int64} {rQ : Nat → Nat → Option Nat} {fI : Nat → Nat → Int32} {fR : Nat → Nat → Option Nat} (q b : Nat) : va_up (g_F G K n rI rJ rQ fI fR) q (.inr (2, [.null, .null, .null, .null, .null, .int 0])) b = g_F G (va_up K q 2) n rI rJ rQ (va_up fI q (fun _ => 0)) (va_up fR q (fun _ => none)) b := by
  by_cases hb : b = q
  · subst hb; simp [g_F, va_up, show va_rf none = Value.null from rfl]
  · simp [g_F, va_up, hb]
theorem g_n3 (G : gG) {K n : Nat → Nat} {rI : Nat → Nat → Int32} {rJ : Nat → Nat → Int64} {rQ : Nat → Nat → Option Nat} {fI : Nat → Nat → Int32} {fR : Nat → Nat → Option Nat} (q b : Nat) : va_up (g_F G K n rI rJ rQ fI fR) q (.inr (3, [.int 0, .int 0, .null, .null, .null, .null, .null, .null, .null, .null, .null, .null, .int 0, .null])) b = g_F G (va_up K q 3) n rI rJ rQ (va_up fI q (fun _ => 0)) (va_up fR q (fun _ => none)) b := by
  by_cases hb : b = q
  · subst hb; simp [g_F, va_up, show va_rf none = Value.null from rfl]
  · simp [g_F, va_up, hb]
theorem g_push {G : gG} {base : Nat} {H0 H1 : Heap} {L : List Nat} {locs : List Loc} {F F2 : Nat → va_E} {q : Nat} {e : va_E} (hb : base ≤ H0.size) (hu : ∀ b, va_up F q e b = F2 b)
    (h1 : va_P G.1 vwCl (va_pl L F ++ [(q, e)]) H1) (h2 : va_D (g_A base) (va_pl L F ++ [(q, e)])) (h3 : va_S (g_A base) H0 H1 locs) : q ∉ L ∧ va_P G.1 vwCl (va_pl (L ++ [q]) F2) H1 ∧ va_D (g_A base) (va_pl (L ++ [q]) F2) ∧ va_S (g_A base) H0 H1 locs ∧ base ≤ H0.size := by
  have hq : q ∉ L := va_pl_fresh2 (X := []) (f := F) (e := e) h2
  have e1 : va_pl L F ++ [(q, e)] = va_pl (L ++ [q]) F2 := (va_pl_push (e := e) hq).trans (va_pl_congr hu)
  rw [e1] at h1 h2
  exact ⟨hq, h1, h2, h3, hb⟩
theorem g_Ap {base : Nat} {H0 : Heap} (h : base ≤ H0.size) : ∀ q, H0.size ≤ q → g_A base q := fun _ hq => Nat.le_trans h hq
section GN
variable {p : Program} {l : Launch} {e : Env} {R : Room} {s : State} {m : MethodId} {args : Array Value} {below : List Frame} {meth : Method} {c : Code} {H : Heap} {locs : List Loc} {cells slots : Nat} {Q : State → Prop}
variable {cc : ByteArray} {pc : Nat} {ls : Array Slot} {rest : List Value} {G : gG} {base : Nat} {H0 : Heap} {L : List Nat} {K n : Nat → Nat} {rI : Nat → Nat → Int32} {rJ : Nat → Nat → Int64} {rQ : Nat → Nat → Option Nat} {fI : Nat → Nat → Int32} {fR : Nat → Nat → Option Nat} {a : Nat}
theorem g_copyi (hx : p.tables.exec = Jvm.exec) (hb : c.code = cc) (hml : c.maxLocals = ls.size) {own : String} {index : Nat} (hown : s.vm.findClass own = some m.cls) (hlink : (Cond.methodLink own index arraycopyName).before args s = true) (hnat : (Cond.native arraycopyName).before args s = true) (hstat : (Cond.static arraycopyName).before args s = true) (hini : (Cond.initialized "java/lang/System").before args s = true)
    (hK : g_K G s) (hG : gw G base H0 (L, K, n, rI, rJ, rQ, fI, fR) H locs) {a0 : Nat} (hL0 : a0 ∈ L) (hk0 : K a0 = 4) (hL : a ∈ L) (hk : K a = 4) {N : Nat} (hn0 : n a0 = N) (hn : n a = N) {nn : Int32} (hN : nn = nI N) (hN31 : N < 2 ^ 31) (hframes : 1 ≤ R.frames) (hlocals : (rest.map fun v => v.category).sum + (nativeFrameWords "java/lang/System" "arraycopy" 5 + 11) ≤ R.locals) (hdg : decode cc pc = .ok (.invokestatic index, 3))
    (kk : ∀ (H1 : Heap) (locs1 : List Loc), gw G base H0 (L, K, n, g_cp rI a0 a N, rJ, rQ, fI, fR) H1 locs1 → W p l e R s m args below meth c H1 locs1 cells slots Q (F0 m (pc + 3) ls rest)) : W p l e R s m args below meth c H locs cells slots Q (F0 m pc ls (.int nn :: .int 0 :: .ref a :: .int 0 :: .ref a0 :: rest)) := by
  obtain ⟨k0, h0⟩ := va_pl_get (X := []) (f := g_F G K n rI rJ rQ fI fR) hL0
  obtain ⟨k1, h1⟩ := va_pl_get (X := []) (f := g_F G K n rI rJ rQ fI fR) hL
  have hc : nn.toNatClampNeg = N := by rw [hN]; exact nI_clamp hN31
  refine va_copyi hx hb hml hown hlink hnat hstat hini hK hG.1 hG.2.1 hG.2.2.1 k0 k1 0 0 (ty := .int) (h0.trans (congrArg (fun e => some (a0, e)) (g_k4 G hk0))) (h1.trans (congrArg (fun e => some (a, e)) (g_k4 G hk))) rfl rfl rfl (by decide) (by decide) (by rw [hN]; exact nI_pos hN31) (by rw [hc, hn0]; exact Nat.le_of_eq (Nat.zero_add N)) (by rw [hc, hn]; exact Nat.le_of_eq (Nat.zero_add N)) (fun i _ => rfl) hframes hlocals hdg (fun H1 locs1 q1 q2 q3 => kk H1 locs1 ?_)
  rw [hc] at q1 q2
  exact g_set hG.2.2.2 hG.2.1 hL h1 (g_v4 G hk a0 N) q1 q2 q3
theorem g_copyl (hx : p.tables.exec = Jvm.exec) (hb : c.code = cc) (hml : c.maxLocals = ls.size) {own : String} {index : Nat} (hown : s.vm.findClass own = some m.cls) (hlink : (Cond.methodLink own index arraycopyName).before args s = true) (hnat : (Cond.native arraycopyName).before args s = true) (hstat : (Cond.static arraycopyName).before args s = true) (hini : (Cond.initialized "java/lang/System").before args s = true)
    (hK : g_K G s) (hG : gw G base H0 (L, K, n, rI, rJ, rQ, fI, fR) H locs) {a0 : Nat} (hL0 : a0 ∈ L) (hk0 : K a0 = 5) (hL : a ∈ L) (hk : K a = 5) {N : Nat} (hn0 : n a0 = N) (hn : n a = N) {nn : Int32} (hN : nn = nI N) (hN31 : N < 2 ^ 31) (hframes : 1 ≤ R.frames) (hlocals : (rest.map fun v => v.category).sum + (nativeFrameWords "java/lang/System" "arraycopy" 5 + 11) ≤ R.locals) (hdg : decode cc pc = .ok (.invokestatic index, 3))
    (kk : ∀ (H1 : Heap) (locs1 : List Loc), gw G base H0 (L, K, n, rI, g_cp rJ a0 a N, rQ, fI, fR) H1 locs1 → W p l e R s m args below meth c H1 locs1 cells slots Q (F0 m (pc + 3) ls rest)) : W p l e R s m args below meth c H locs cells slots Q (F0 m pc ls (.int nn :: .int 0 :: .ref a :: .int 0 :: .ref a0 :: rest)) := by
  obtain ⟨k0, h0⟩ := va_pl_get (X := []) (f := g_F G K n rI rJ rQ fI fR) hL0
  obtain ⟨k1, h1⟩ := va_pl_get (X := []) (f := g_F G K n rI rJ rQ fI fR) hL
  have hc : nn.toNatClampNeg = N := by rw [hN]; exact nI_clamp hN31
  refine va_copyl hx hb hml hown hlink hnat hstat hini hK hG.1 hG.2.1 hG.2.2.1 k0 k1 1 1 (ty := .long) (h0.trans (congrArg (fun e => some (a0, e)) (g_k5 G hk0))) (h1.trans (congrArg (fun e => some (a, e)) (g_k5 G hk))) rfl rfl rfl (by decide) (by decide) (by rw [hN]; exact nI_pos hN31) (by rw [hc, hn0]; exact Nat.le_of_eq (Nat.zero_add N)) (by rw [hc, hn]; exact Nat.le_of_eq (Nat.zero_add N)) (fun i _ => rfl) hframes hlocals hdg (fun H1 locs1 q1 q2 q3 => kk H1 locs1 ?_)
  rw [hc] at q1 q2
  exact g_set hG.2.2.2 hG.2.1 hL h1 (g_v5 G hk a0 N) q1 q2 q3
theorem g_newa4 (hx : p.tables.exec = Jvm.exec) (hb : c.code = cc) (harr : (Cond.arrayClass .int).before args s = true) (hK : g_K G s) (hG : gw G base H0 (L, K, n, rI, rJ, rQ, fI, fR) H locs) {nn : Int32} (N : Nat) (hN : nn = nI N) (hN31 : N < 100000) (hcells : cells + 1 ≤ R.cells) (hslots : slots + N ≤ R.slots) (hdg : decode cc pc = .ok (.newarray .int, 2))
    (kk : ∀ (q : Nat) (H : Heap), q ∉ L → gw G base H0 (L ++ [q], va_up K q 4, va_up n q N, va_up rI q (fun _ => 0), rJ, rQ, fI, fR) H locs → W p l e R s m args below meth c H locs (cells + 1) (slots + N) Q (F0 m (pc + 2) ls (.ref q :: rest))) : W p l e R s m args below meth c H locs cells slots Q (F0 m pc ls (.int nn :: rest)) := by
  refine va_newa (atype := .int) (ty := .int) (a0 := (N, .inl (fun _ => 0))) hx hb harr rfl hK hG.1 hG.2.1 hG.2.2.1 (g_Ap hG.2.2.2) (fun _ => rfl) (by rw [hN]; exact nI_pos (by omega)) (by rw [hN]; exact nI_clamp (by omega)) (by show N * 4 ≤ _; omega) hcells hslots hdg (fun q cA H1 k1 h1 h2 h3 => ?_)
  have e1 : s.vm.findClass ("[" ++ (.int : FieldType).toString) = some cA := (k1.2 4 _ rfl).2
  have e2 : s.vm.findClass ("[" ++ (.int : FieldType).toString) = some G.2.1 := (hK.2 0 _ rfl).2
  obtain rfl : G.2.1 = cA := Option.some.inj (e2.symm.trans e1)
  obtain ⟨hq, h4⟩ := g_push hG.2.2.2 (g_n4 G q N) h1 h2 h3
  exact kk q H1 hq h4
theorem g_newa5 (hx : p.tables.exec = Jvm.exec) (hb : c.code = cc) (harr : (Cond.arrayClass .long).before args s = true) (hK : g_K G s) (hG : gw G base H0 (L, K, n, rI, rJ, rQ, fI, fR) H locs) {nn : Int32} (N : Nat) (hN : nn = nI N) (hN31 : N < 100000) (hcells : cells + 1 ≤ R.cells) (hslots : slots + N ≤ R.slots) (hdg : decode cc pc = .ok (.newarray .long, 2))
    (kk : ∀ (q : Nat) (H : Heap), q ∉ L → gw G base H0 (L ++ [q], va_up K q 5, va_up n q N, rI, va_up rJ q (fun _ => 0), rQ, fI, fR) H locs → W p l e R s m args below meth c H locs (cells + 1) (slots + N) Q (F0 m (pc + 2) ls (.ref q :: rest))) : W p l e R s m args below meth c H locs cells slots Q (F0 m pc ls (.int nn :: rest)) := by
  refine va_newa (atype := .long) (ty := .long) (a0 := (N, .inr (.inl (fun _ => 0)))) hx hb harr rfl hK hG.1 hG.2.1 hG.2.2.1 (g_Ap hG.2.2.2) (fun _ => rfl) (by rw [hN]; exact nI_pos (by omega)) (by rw [hN]; exact nI_clamp (by omega)) (by show N * 8 ≤ _; omega) hcells hslots hdg (fun q cA H1 k1 h1 h2 h3 => ?_)
  have e1 : s.vm.findClass ("[" ++ (.long : FieldType).toString) = some cA := (k1.2 4 _ rfl).2
  have e2 : s.vm.findClass ("[" ++ (.long : FieldType).toString) = some G.2.2.1 := (hK.2 1 _ rfl).2
  obtain rfl : G.2.2.1 = cA := Option.some.inj (e2.symm.trans e1)
  obtain ⟨hq, h4⟩ := g_push hG.2.2.2 (g_n5 G q N) h1 h2 h3
  exact kk q H1 hq h4
theorem g_newa6 (hx : p.tables.exec = Jvm.exec) (hb : c.code = cc) (harr : (Cond.arrayClass .boolean).before args s = true) (hK : g_K G s) (hG : gw G base H0 (L, K, n, rI, rJ, rQ, fI, fR) H locs) {nn : Int32} (N : Nat) (hN : nn = nI N) (hN31 : N < 100000) (hcells : cells + 1 ≤ R.cells) (hslots : slots + N ≤ R.slots) (hdg : decode cc pc = .ok (.newarray .boolean, 2))
    (kk : ∀ (q : Nat) (H : Heap), q ∉ L → gw G base H0 (L ++ [q], va_up K q 6, va_up n q N, va_up rI q (fun _ => 0), rJ, rQ, fI, fR) H locs → W p l e R s m args below meth c H locs (cells + 1) (slots + N) Q (F0 m (pc + 2) ls (.ref q :: rest))) : W p l e R s m args below meth c H locs cells slots Q (F0 m pc ls (.int nn :: rest)) := by
  refine va_newa (atype := .boolean) (ty := .boolean) (a0 := (N, .inl (fun _ => 0))) hx hb harr rfl hK hG.1 hG.2.1 hG.2.2.1 (g_Ap hG.2.2.2) (fun _ => rfl) (by rw [hN]; exact nI_pos (by omega)) (by rw [hN]; exact nI_clamp (by omega)) (by show N * 1 ≤ _; omega) hcells hslots hdg (fun q cA H1 k1 h1 h2 h3 => ?_)
  have e1 : s.vm.findClass ("[" ++ (.boolean : FieldType).toString) = some cA := (k1.2 4 _ rfl).2
  have e2 : s.vm.findClass ("[" ++ (.boolean : FieldType).toString) = some G.2.2.2.1 := (hK.2 2 _ rfl).2
  obtain rfl : G.2.2.2.1 = cA := Option.some.inj (e2.symm.trans e1)
  obtain ⟨hq, h4⟩ := g_push hG.2.2.2 (g_n6 G q N) h1 h2 h3
  exact kk q H1 hq h4
theorem g_newq (hx : p.tables.exec = Jvm.exec) (hb : c.code = cc) {own : String} {index : Nat} (hown : s.vm.findClass own = some m.cls) (hcl : (Cond.classLink own index RX1).before args s = true) (hov : va_AO RX1 s) (hK : g_K G s) (hG : gw G base H0 (L, K, n, rI, rJ, rQ, fI, fR) H locs) {nn : Int32} (N : Nat) (hN : nn = nI N) (hN31 : N < 100000) (hcells : cells + 1 ≤ R.cells) (hslots : slots + N ≤ R.slots) (hdg : decode cc pc = .ok (.anewarray index, 3))
    (kk : ∀ (q : Nat) (H : Heap), q ∉ L → gw G base H0 (L ++ [q], va_up K q 7, va_up n q N, rI, rJ, va_up rQ q (fun _ => none), fI, fR) H locs → W p l e R s m args below meth c H locs (cells + 1) (slots + N) Q (F0 m (pc + 3) ls (.ref q :: rest))) : W p l e R s m args below meth c H locs cells slots Q (F0 m pc ls (.int nn :: rest)) := by
  refine va_newq hx hb hown hcl hov hK hG.1 hG.2.1 hG.2.2.1 (g_Ap hG.2.2.2) (N' := N) (by rw [hN]; exact nI_pos (by omega)) (by rw [hN]; exact nI_clamp (by omega)) (by omega) hcells hslots hdg (fun q cA H1 k1 h1 h2 h3 => ?_)
  obtain ⟨_, _, _, _, _, e1⟩ := (k1.2 4 _ rfl).2
  obtain ⟨_, _, _, _, _, e2⟩ := (hK.2 3 _ rfl).2
  obtain rfl : G.2.2.2.2 = cA := Option.some.inj (e2.symm.trans e1)
  obtain ⟨hq, h4⟩ := g_push hG.2.2.2 (g_n7 G q N) h1 h2 h3
  exact kk q H1 hq h4
theorem g_new0 (hx : p.tables.exec = Jvm.exec) (hb : c.code = cc) {own : String} {index : Nat} {Ts : List Cond} (hts : ∀ w ∈ Ts, w.before args s = true) (hin : ∀ w ∈ wsX00, w ∈ Ts) (hown : s.vm.findClass own = some m.cls) (hcl : (Cond.classLink own index RX0).before args s = true) (hinst : (Cond.instantiable RX0 7).before args s = true) (hini : (Cond.initialized RX0).before args s = true)
    (hK : g_K G s) (hG : gw G base H0 (L, K, n, rI, rJ, rQ, fI, fR) H locs) (hcells : cells + 1 ≤ R.cells) (hslots : slots + 7 ≤ R.slots) (hdg : decode cc pc = .ok (.new index, 3))
    (kk : ∀ (q : Nat) (H : Heap), q ∉ L → gw G base H0 (L ++ [q], va_up K q 0, n, rI, rJ, rQ, va_up fI q (fun _ => 0), va_up fR q (fun _ => none)) H locs → W p l e R s m args below meth c H locs (cells + 1) (slots + 7) Q (F0 m (pc + 3) ls (.ref q :: rest))) : W p l e R s m args below meth c H locs cells slots Q (F0 m pc ls rest) := by
  refine va_new (ci := 0) (fs := [.null, .null, .null, .null, .null, .null, .int 0]) (C := RX0) (T := TX0) (N := 7) hx hb hts hin tyX0 tyX0_ok hown hcl hinst hini hK hG.1 hG.2.1 hG.2.2.1 (g_Ap hG.2.2.2) rfl (fun j hj => by rcases (show j = 0 ∨ j = 1 ∨ j = 2 ∨ j = 3 ∨ j = 4 ∨ j = 5 ∨ j = 6 by omega) with rfl | rfl | rfl | rfl | rfl | rfl | rfl <;> rfl) hcells hslots hdg (fun q H1 h1 h2 h3 => ?_)
  obtain ⟨hq, h4⟩ := g_push hG.2.2.2 (g_n0 G q) h1 h2 h3
  exact kk q H1 hq h4
theorem g_new1 (hx : p.tables.exec = Jvm.exec) (hb : c.code = cc) {own : String} {index : Nat} {Ts : List Cond} (hts : ∀ w ∈ Ts, w.before args s = true) (hin : ∀ w ∈ wsX10, w ∈ Ts) (hown : s.vm.findClass own = some m.cls) (hcl : (Cond.classLink own index RX1).before args s = true) (hinst : (Cond.instantiable RX1 5).before args s = true) (hini : (Cond.initialized RX1).before args s = true)
    (hK : g_K G s) (hG : gw G base H0 (L, K, n, rI, rJ, rQ, fI, fR) H locs) (hcells : cells + 1 ≤ R.cells) (hslots : slots + 5 ≤ R.slots) (hdg : decode cc pc = .ok (.new index, 3))
    (kk : ∀ (q : Nat) (H : Heap), q ∉ L → gw G base H0 (L ++ [q], va_up K q 1, n, rI, rJ, rQ, va_up fI q (fun _ => 0), va_up fR q (fun _ => none)) H locs → W p l e R s m args below meth c H locs (cells + 1) (slots + 5) Q (F0 m (pc + 3) ls (.ref q :: rest))) : W p l e R s m args below meth c H locs cells slots Q (F0 m pc ls rest) := by
  refine va_new (ci := 1) (fs := [.null, .null, .null, .int 0, .int 0]) (C := RX1) (T := TX1) (N := 5) hx hb hts hin tyX1 tyX1_ok hown hcl hinst hini hK hG.1 hG.2.1 hG.2.2.1 (g_Ap hG.2.2.2) rfl (fun j hj => by rcases (show j = 0 ∨ j = 1 ∨ j = 2 ∨ j = 3 ∨ j = 4 by omega) with rfl | rfl | rfl | rfl | rfl <;> rfl) hcells hslots hdg (fun q H1 h1 h2 h3 => ?_)
  obtain ⟨hq, h4⟩ := g_push hG.2.2.2 (g_n1 G q) h1 h2 h3
  exact kk q H1 hq h4
theorem g_new2 (hx : p.tables.exec = Jvm.exec) (hb : c.code = cc) {own : String} {index : Nat} {Ts : List Cond} (hts : ∀ w ∈ Ts, w.before args s = true) (hin : ∀ w ∈ wsX20, w ∈ Ts) (hown : s.vm.findClass own = some m.cls) (hcl : (Cond.classLink own index RX2).before args s = true) (hinst : (Cond.instantiable RX2 6).before args s = true) (hini : (Cond.initialized RX2).before args s = true)
    (hK : g_K G s) (hG : gw G base H0 (L, K, n, rI, rJ, rQ, fI, fR) H locs) (hcells : cells + 1 ≤ R.cells) (hslots : slots + 6 ≤ R.slots) (hdg : decode cc pc = .ok (.new index, 3))
    (kk : ∀ (q : Nat) (H : Heap), q ∉ L → gw G base H0 (L ++ [q], va_up K q 2, n, rI, rJ, rQ, va_up fI q (fun _ => 0), va_up fR q (fun _ => none)) H locs → W p l e R s m args below meth c H locs (cells + 1) (slots + 6) Q (F0 m (pc + 3) ls (.ref q :: rest))) : W p l e R s m args below meth c H locs cells slots Q (F0 m pc ls rest) := by
  refine va_new (ci := 2) (fs := [.null, .null, .null, .null, .null, .int 0]) (C := RX2) (T := TX2) (N := 6) hx hb hts hin tyX2 tyX2_ok hown hcl hinst hini hK hG.1 hG.2.1 hG.2.2.1 (g_Ap hG.2.2.2) rfl (fun j hj => by rcases (show j = 0 ∨ j = 1 ∨ j = 2 ∨ j = 3 ∨ j = 4 ∨ j = 5 by omega) with rfl | rfl | rfl | rfl | rfl | rfl <;> rfl) hcells hslots hdg (fun q H1 h1 h2 h3 => ?_)
  obtain ⟨hq, h4⟩ := g_push hG.2.2.2 (g_n2 G q) h1 h2 h3
  exact kk q H1 hq h4
theorem g_new3 (hx : p.tables.exec = Jvm.exec) (hb : c.code = cc) {own : String} {index : Nat} {Ts : List Cond} (hts : ∀ w ∈ Ts, w.before args s = true) (hin : ∀ w ∈ wsX30, w ∈ Ts) (hown : s.vm.findClass own = some m.cls) (hcl : (Cond.classLink own index RX3).before args s = true) (hinst : (Cond.instantiable RX3 14).before args s = true) (hini : (Cond.initialized RX3).before args s = true)
    (hK : g_K G s) (hG : gw G base H0 (L, K, n, rI, rJ, rQ, fI, fR) H locs) (hcells : cells + 1 ≤ R.cells) (hslots : slots + 14 ≤ R.slots) (hdg : decode cc pc = .ok (.new index, 3))
    (kk : ∀ (q : Nat) (H : Heap), q ∉ L → gw G base H0 (L ++ [q], va_up K q 3, n, rI, rJ, rQ, va_up fI q (fun _ => 0), va_up fR q (fun _ => none)) H locs → W p l e R s m args below meth c H locs (cells + 1) (slots + 14) Q (F0 m (pc + 3) ls (.ref q :: rest))) : W p l e R s m args below meth c H locs cells slots Q (F0 m pc ls rest) := by
  refine va_new (ci := 3) (fs := [.int 0, .int 0, .null, .null, .null, .null, .null, .null, .null, .null, .null, .null, .int 0, .null]) (C := RX3) (T := TX3) (N := 14) hx hb hts hin tyX3 tyX3_ok hown hcl hinst hini hK hG.1 hG.2.1 hG.2.2.1 (g_Ap hG.2.2.2) rfl (fun j hj => by rcases (show j = 0 ∨ j = 1 ∨ j = 2 ∨ j = 3 ∨ j = 4 ∨ j = 5 ∨ j = 6 ∨ j = 7 ∨ j = 8 ∨ j = 9 ∨ j = 10 ∨ j = 11 ∨ j = 12 ∨ j = 13 by omega) with rfl | rfl | rfl | rfl | rfl | rfl | rfl | rfl | rfl | rfl | rfl | rfl | rfl | rfl <;> rfl) hcells hslots hdg (fun q H1 h1 h2 h3 => ?_)
  obtain ⟨hq, h4⟩ := g_push hG.2.2.2 (g_n3 G q) h1 h2 h3
  exact kk q H1 hq h4
end GN
end
section
/-! the shapes of the class's objects in the pool, and the words of the joins -/
/-- a State's cells: its object and its three rows -/
def isSt (L : List Nat) (K n : Nat → Nat) (fR : Nat → Nat → Option Nat) (a bs bl bt : Nat) : Prop :=
  a ∈ L ∧ K a = 1 ∧ fR a 0 = some bs ∧ fR a 1 = some bl ∧ fR a 2 = some bt ∧ bs ∈ L ∧ K bs = 5 ∧ n bs = 4 ∧ bl ∈ L ∧ K bl = 5 ∧ n bl = 4 ∧ bt ∈ L ∧ K bt = 4 ∧ n bt = 32
/-- the Dots' cells -/
def isDt (L : List Nat) (K n : Nat → Nat) (fR : Nat → Nat → Option Nat) (d dr dn dk dp dv dg : Nat) : Prop :=
  d ∈ L ∧ K d = 0 ∧ fR d 0 = some dr ∧ fR d 1 = some dn ∧ fR d 2 = some dk ∧ fR d 3 = some dp ∧ fR d 4 = some dv ∧ fR d 5 = some dg ∧ dr ∈ L ∧ K dr = 4 ∧ n dr = 250 ∧ dn ∈ L ∧ K dn = 4 ∧ n dn = 250 ∧ dk ∈ L ∧ K dk = 4 ∧ n dk = 250 ∧ dp ∈ L ∧ K dp = 4 ∧ n dp = 250 ∧ dv ∈ L ∧ K dv = 5 ∧ n dv = 250 ∧ dg ∈ L ∧ K dg = 4 ∧ n dg = 6
/-- a word of LIVE behind a join -/
def jl (l1 s1 l2 s2 : Int64) : Int64 := (l1 &&& (l2 ||| (s2 ^^^ (-1)))) ||| (l2 &&& (s1 ^^^ (-1)))
/-- the first w words of a state's rows are joined -/
def tD (bs bl os ol : Nat) (rJ rJ' : Nat → Nat → Int64) (w : Nat) : Prop :=
  (∀ j, j < w → rJ' bl j = jl (rJ bl j) (rJ bs j) (rJ ol j) (rJ os j) ∧ rJ' bs j = rJ bs j ||| rJ os j) ∧ (∀ b j, w ≤ j → rJ' b j = rJ b j) ∧ (∀ b j, b ≠ bl → b ≠ bs → rJ' b j = rJ b j)
theorem tD_0 (bs bl os ol : Nat) (rJ : Nat → Nat → Int64) : tD bs bl os ol rJ rJ 0 := ⟨fun j h => absurd h (Nat.not_lt_zero j), fun _ _ _ => rfl, fun _ _ _ _ => rfl⟩
theorem tD_s {bs bl os ol : Nat} {rJ r1 : Nat → Nat → Int64} {w : Nat} (hne : bl ≠ bs) (h : tD bs bl os ol rJ r1 w) : tD bs bl os ol rJ (g_up (g_up r1 bl w (jl (r1 bl w) (r1 bs w) (r1 ol w) (r1 os w))) bs w (r1 bs w ||| r1 os w)) (w + 1) := by
  obtain ⟨h1, h2, h3⟩ := h
  refine ⟨fun j hj => ?_, fun b j hj => ?_, fun b j hb1 hb2 => ?_⟩
  · by_cases e : j = w
    · subst e
      rw [g_up_b _ _ _ _ hne, g_up_at, g_up_at, h2 bl j (Nat.le_refl j), h2 bs j (Nat.le_refl j), h2 ol j (Nat.le_refl j), h2 os j (Nat.le_refl j)]
      exact ⟨rfl, rfl⟩
    · rw [g_up_i _ _ _ _ e, g_up_i _ _ _ _ e, g_up_i _ _ _ _ e, g_up_i _ _ _ _ e]
      exact h1 j (by omega)
  · rw [g_up_i _ _ _ _ (by omega), g_up_i _ _ _ _ (by omega)]
    exact h2 b j (by omega)
  · rw [g_up_b _ _ _ _ hb2, g_up_b _ _ _ _ hb1]
    exact h3 b j hb1 hb2
theorem td_keep {bs bl os ol : Nat} {rJ r1 : Nat → Nat → Int64} {w : Nat} (hne : bl ≠ bs) (h : tD bs bl os ol rJ r1 w) (x y : Int64) {j : Nat} (hj : j < w) : g_up (g_up r1 bl w x) bs w y bl j = r1 bl j ∧ g_up (g_up r1 bl w x) bs w y bs j = r1 bs j := by
  rw [g_up_i _ _ _ _ (by omega), g_up_i _ _ _ _ (by omega), g_up_i _ _ _ _ (by omega), g_up_i _ _ _ _ (by omega)]
  exact ⟨rfl, rfl⟩
theorem td_new {bs bl : Nat} {r1 : Nat → Nat → Int64} {w : Nat} (hne : bl ≠ bs) (x y : Int64) : g_up (g_up r1 bl w x) bs w y bl w = x ∧ g_up (g_up r1 bl w x) bs w y bs w = y := by
  rw [g_up_b _ _ _ _ hne, g_up_at, g_up_at]
  exact ⟨rfl, rfl⟩
theorem td_f {bs bl os ol : Nat} {rJ r1 : Nat → Nat → Int64} {w : Nat} {cg : Bool} {x y : Int64} (hne : bl ≠ bs) (h : tD bs bl os ol rJ r1 w) (hcg : cg = false ↔ ∀ j, j < w → r1 bl j = rJ bl j ∧ r1 bs j = rJ bs j) (hc : x = r1 bl w ∧ y = r1 bs w) :
    cg = false ↔ ∀ j, j < w + 1 → g_up (g_up r1 bl w x) bs w y bl j = rJ bl j ∧ g_up (g_up r1 bl w x) bs w y bs j = rJ bs j := by
  rw [hcg]
  constructor
  · intro q j hj
    by_cases e : j = w
    · subst e
      rw [(td_new hne x y).1, (td_new hne x y).2, hc.1, hc.2]
      exact ⟨h.2.1 bl j (Nat.le_refl j), h.2.1 bs j (Nat.le_refl j)⟩
    · rw [(td_keep hne h x y (show j < w by omega)).1, (td_keep hne h x y (show j < w by omega)).2]
      exact q j (by omega)
  · intro q j hj
    have := q j (by omega)
    rw [(td_keep hne h x y hj).1, (td_keep hne h x y hj).2] at this
    exact this
theorem td_t {bs bl os ol : Nat} {rJ r1 : Nat → Nat → Int64} {w : Nat} {x y : Int64} (hne : bl ≠ bs) (h : tD bs bl os ol rJ r1 w) (hc : ¬ x = r1 bl w ∨ ¬ y = r1 bs w) :
    true = false ↔ ∀ j, j < w + 1 → g_up (g_up r1 bl w x) bs w y bl j = rJ bl j ∧ g_up (g_up r1 bl w x) bs w y bs j = rJ bs j := by
  refine ⟨fun q => (nomatch q), fun q => ?_⟩
  have := q w (by omega)
  rw [(td_new hne x y).1, (td_new hne x y).2, ← h.2.1 bl w (Nat.le_refl w), ← h.2.1 bs w (Nat.le_refl w)] at this
  rcases hc with z | z
  · exact absurd this.1 z
  · exact absurd this.2 z
/-- the greater of two stamps -/
def mx (x y : Int32) : Int32 := if y ≤ x then x else y
/-- the first w stamps are joined -/
def tT (bt ot : Nat) (rI rI' : Nat → Nat → Int32) (w : Nat) : Prop :=
  (∀ j, j < w → rI' bt j = mx (rI bt j) (rI ot j)) ∧ (∀ b j, w ≤ j → rI' b j = rI b j) ∧ (∀ b j, b ≠ bt → rI' b j = rI b j)
theorem tT_0 (bt ot : Nat) (rI : Nat → Nat → Int32) : tT bt ot rI rI 0 := ⟨fun j h => absurd h (Nat.not_lt_zero j), fun _ _ _ => rfl, fun _ _ _ => rfl⟩
theorem tT_n {bt ot : Nat} {rI r1 : Nat → Nat → Int32} {w : Nat} (h : tT bt ot rI r1 w) (hc : r1 ot w ≤ r1 bt w) : tT bt ot rI r1 (w + 1) := by
  obtain ⟨h1, h2, h3⟩ := h
  refine ⟨fun j hj => ?_, fun b j hj => h2 b j (by omega), h3⟩
  by_cases e : j = w
  · subst e
    rw [h2 bt j (Nat.le_refl j), h2 ot j (Nat.le_refl j)] at hc
    rw [h2 bt j (Nat.le_refl j)]
    unfold mx
    rw [if_pos hc]
  · exact h1 j (by omega)
theorem tT_w {bt ot : Nat} {rI r1 : Nat → Nat → Int32} {w : Nat} (h : tT bt ot rI r1 w) (hc : ¬ r1 ot w ≤ r1 bt w) : tT bt ot rI (g_up r1 bt w (r1 ot w)) (w + 1) := by
  obtain ⟨h1, h2, h3⟩ := h
  refine ⟨fun j hj => ?_, fun b j hj => ?_, fun b j hb => ?_⟩
  · by_cases e : j = w
    · subst e
      rw [h2 bt j (Nat.le_refl j), h2 ot j (Nat.le_refl j)] at hc
      rw [g_up_at, h2 ot j (Nat.le_refl j)]
      unfold mx
      rw [if_neg hc]
    · rw [g_up_i _ _ _ _ e]
      exact h1 j (by omega)
  · rw [g_up_i _ _ _ _ (by omega)]
    exact h2 b j (by omega)
  · rw [g_up_b _ _ _ _ hb]
    exact h3 b j hb
theorem tT_cf {bt ot : Nat} {rI r1 : Nat → Nat → Int32} {w : Nat} {cg : Bool} (h : tT bt ot rI r1 w) (hcg : cg = false ↔ ∀ j, j < w → r1 bt j = rI bt j) : cg = false ↔ ∀ j, j < w + 1 → r1 bt j = rI bt j := by
  rw [hcg]
  exact ⟨fun q j hj => by
    by_cases e : j = w
    · subst e; exact h.2.1 bt j (Nat.le_refl j)
    · exact q j (by omega), fun q j hj => q j (by omega)⟩
theorem tT_ct {bt ot : Nat} {rI r1 : Nat → Nat → Int32} {w : Nat} (h : tT bt ot rI r1 w) (hc : ¬ r1 ot w ≤ r1 bt w) : true = false ↔ ∀ j, j < w + 1 → g_up r1 bt w (r1 ot w) bt j = rI bt j := by
  refine ⟨fun q => (nomatch q), fun q => ?_⟩
  have := q w (by omega)
  rw [g_up_at, ← h.2.1 bt w (Nat.le_refl w)] at this
  rw [this] at hc
  exact absurd (Int32.le_refl _) hc
theorem il_t {P : Prop} {lk : Bool} {w : Nat} {f g f2 g2 : Nat → Int64} (h : lk = true ↔ P ∧ ∀ j, j < w → f j = g j ∧ f2 j = g2 j) (c1 : lk = true) (c2 : f w = g w) (c3 : f2 w = g2 w) : true = true ↔ P ∧ ∀ j, j < w + 1 → f j = g j ∧ f2 j = g2 j :=
  ⟨fun _ => ⟨(h.mp c1).1, lt_s (h.mp c1).2 ⟨c2, c3⟩⟩, fun _ => rfl⟩
theorem il_f {P : Prop} {lk : Bool} {w : Nat} {f g f2 g2 : Nat → Int64} (h : lk = true ↔ P ∧ ∀ j, j < w → f j = g j ∧ f2 j = g2 j) (hd : ¬ (lk = true ∧ f w = g w ∧ f2 w = g2 w)) : false = true ↔ P ∧ ∀ j, j < w + 1 → f j = g j ∧ f2 j = g2 j :=
  ⟨fun q => (nomatch q), fun q => absurd ⟨h.mpr ⟨q.1, fun j hj => q.2 j (by omega)⟩, q.2 w (by omega)⟩ hd⟩
theorem il_t2 {P : Prop} {l2 : Bool} {w : Nat} {f g : Nat → Int32} (h : l2 = true ↔ P ∧ ∀ j, j < w → f j = g j) (c1 : l2 = true) (c2 : f w = g w) : true = true ↔ P ∧ ∀ j, j < w + 1 → f j = g j :=
  ⟨fun _ => ⟨(h.mp c1).1, lt_s (h.mp c1).2 c2⟩, fun _ => rfl⟩
theorem il_f2 {P : Prop} {l2 : Bool} {w : Nat} {f g : Nat → Int32} (h : l2 = true ↔ P ∧ ∀ j, j < w → f j = g j) (hd : ¬ (l2 = true ∧ f w = g w)) : false = true ↔ P ∧ ∀ j, j < w + 1 → f j = g j :=
  ⟨fun q => (nomatch q), fun q => absurd ⟨h.mpr ⟨q.1, fun j hj => q.2 j (by omega)⟩, q.2 w (by omega)⟩ hd⟩
end
section
set_option maxHeartbeats 4000000 in
set_option maxRecDepth 100000 in
/-- State.isSeen(i) -/
theorem c_isSeen (l : Launch) (G : gG) (base : Nat) {L : List Nat} {K n : Nat → Nat} {rI : Nat → Nat → Int32} {rJ : Nat → Nat → Int64} {rQ : Nat → Nat → Option Nat} {fI : Nat → Nat → Int32} {fR : Nat → Nat → Option Nat} {a bs bl bt : Nat} (hS : isSt L K n fR a bs bl bt) {i : Nat} (hi : i < 256) : Met l yX1_isSeen wsX1_isSeen ({ frames := 0, cells := 0, slots := 0, locals := 0 }) (va_Pc [.ref a, .int (nI i)] (g_Pr G base (L, K, n, rI, rJ, rQ, fI, fR))) (g_Qi G base (fun _ : Unit => (L, K, n, rI, rJ, rQ, fI, fR)) (fun r _ => r = bi (rb (rJ bs) i))) 0 0 (g_A base) := by
  obtain ⟨hLa, hKa, h0a, h1a, h2a, hLbs, hKbs, hnbs, hLbl, hKbl, hnbl, hLbt, hKbt, hnbt⟩ := hS
  refine Met.ofW (cc := cX1_isSeen) (maxL := 2) (ret := (some .boolean)) (by decide) rfl ?_
  intro p e s m args below meth c s₁ B hml hv
  obtain ⟨rfl, hPr⟩ := hv
  have hx := B.exec
  have hb := B.bytes
  have hr := B.returns
  have hts := atoms_spec (ws := wsX1_isSeen) B.pre
  have hown : s.vm.findClass RX1 = some m.cls := findClass_of_methodNamed B.named
  have hlocks := B.notSynchronized
  have hin : meth.name = "isSeen" := (name_of_methodNamed B.named B.method).1
  have hK := hPr.2.2
  have hG := hPr.gw
  have hl := lv_entry ([.ref a, .int (nI i)]) (n := 2) (Nat.le_of_ble_eq_true rfl)
  rw [lg_entry_eq]
  generalize (lg_sl ([.ref a, .int (nI i)]) ++ List.replicate (2 - (lg_sl ([.ref a, .int (nI i)])).length) Slot.unset).toArray = ls at hl ⊢
  have hl : lv_has ls 2 [(0, .ref a), (1, .int (nI i))] := hl
  refine g_start hPr (fun H locs hG => ?_)
  refine lv_aload_n hx hb dX1_isSeen_0 rfl (lv_at hl 0 rfl) ?_
  refine r_State_seen hx hb hts (by decide +kernel) hown hK hG hLa hKa h0a (hts (.fieldLink RX1 9 "DotStores$State" "seen" "[J") (by decide +kernel)) dX1_isSeen_1 ?_
  refine lv_iload_n hx hb dX1_isSeen_4 rfl (lv_at hl 1 rfl) ?_
  refine lv_bipush (v := 64) hx hb dX1_isSeen_5 (by decide) ?_
  refine lv_idiv hx hb dX1_isSeen_7 (by decide) ?_
  refine lv_topi (fun z1 ez1 => ?_)
  obtain rfl : z1 = nI (i / 64) := ez1.trans (pk_div (a := i) (d := 64) (by omega) (by decide) (by decide))
  refine g_lald hx hb hK hG hLbs hKbs (i / 64) rfl (by rw [hnbs]; omega) (by rw [hnbs]; decide) dX1_isSeen_8 ?_
  refine lv_iload_n hx hb dX1_isSeen_9 rfl (lv_at hl 1 rfl) ?_
  refine lv_bipush (v := 64) hx hb dX1_isSeen_10 (by decide) ?_
  refine lv_irem hx hb dX1_isSeen_12 (by decide) ?_
  refine lv_topi (fun z2 ez2 => ?_)
  obtain rfl : z2 = nI (i % 64) := ez2.trans (pk_rem (a := i) (d := 64) (by omega) (by decide) (by decide))
  refine lv_lushr hx hb dX1_isSeen_13 rfl ?_
  refine lv_lconst (v := 1) hx hb dX1_isSeen_14 (by decide) ?_
  refine lv_land hx hb dX1_isSeen_15 ?_
  refine lv_lconst (v := 0) hx hb dX1_isSeen_16 (by decide) ?_
  refine W.lcmp hx hb dX1_isSeen_17 ?_
  refine lv_if_eq (tgt := 25) hx hb dX1_isSeen_18 (by decide) (fun c1 => ?_) (fun c1 => ?_)
  · have c2 := (lb_test (Nat.mod_lt i (by decide))).mp ((lg_cmp_eq _ _).mp c1)
    refine lv_iconst (v := 0) hx hb dX1_isSeen_25 (by decide) ?_
    refine W.widen (k := 0) (n := 0) (by omega) (by omega) ?_
    exact W.zret (v := 0) hx hb hr rfl (fun t ht hW => ⟨⟨0, (), rfl, (by unfold rb; rw [c2]; rfl), hG.at ht⟩, hG.2.2.1.F ht⟩) hG.2.2.1.2.2 dX1_isSeen_26
  · have c2 := fun z => c1 ((lg_cmp_eq _ _).mpr ((lb_test (Nat.mod_lt i (by decide))).mpr z))
    refine lv_iconst (v := 1) hx hb dX1_isSeen_21 (by decide) ?_
    refine lv_goto (tgt := 26) hx hb dX1_isSeen_22 (by decide) ?_
    refine W.widen (k := 0) (n := 0) (by omega) (by omega) ?_
    exact W.zret (v := 1) hx hb hr rfl (fun t ht hW => ⟨⟨1, (), rfl, (by unfold rb; rw [ts_nf c2]; rfl), hG.at ht⟩, hG.2.2.1.F ht⟩) hG.2.2.1.2.2 dX1_isSeen_26
set_option maxHeartbeats 4000000 in
set_option maxRecDepth 100000 in
/-- State.isLive(i) -/
theorem c_isLive (l : Launch) (G : gG) (base : Nat) {L : List Nat} {K n : Nat → Nat} {rI : Nat → Nat → Int32} {rJ : Nat → Nat → Int64} {rQ : Nat → Nat → Option Nat} {fI : Nat → Nat → Int32} {fR : Nat → Nat → Option Nat} {a bs bl bt : Nat} (hS : isSt L K n fR a bs bl bt) {i : Nat} (hi : i < 256) : Met l yX1_isLive wsX1_isLive ({ frames := 0, cells := 0, slots := 0, locals := 0 }) (va_Pc [.ref a, .int (nI i)] (g_Pr G base (L, K, n, rI, rJ, rQ, fI, fR))) (g_Qi G base (fun _ : Unit => (L, K, n, rI, rJ, rQ, fI, fR)) (fun r _ => r = bi (rb (rJ bl) i))) 0 0 (g_A base) := by
  obtain ⟨hLa, hKa, h0a, h1a, h2a, hLbs, hKbs, hnbs, hLbl, hKbl, hnbl, hLbt, hKbt, hnbt⟩ := hS
  refine Met.ofW (cc := cX1_isLive) (maxL := 2) (ret := (some .boolean)) (by decide) rfl ?_
  intro p e s m args below meth c s₁ B hml hv
  obtain ⟨rfl, hPr⟩ := hv
  have hx := B.exec
  have hb := B.bytes
  have hr := B.returns
  have hts := atoms_spec (ws := wsX1_isLive) B.pre
  have hown : s.vm.findClass RX1 = some m.cls := findClass_of_methodNamed B.named
  have hlocks := B.notSynchronized
  have hin : meth.name = "isLive" := (name_of_methodNamed B.named B.method).1
  have hK := hPr.2.2
  have hG := hPr.gw
  have hl := lv_entry ([.ref a, .int (nI i)]) (n := 2) (Nat.le_of_ble_eq_true rfl)
  rw [lg_entry_eq]
  generalize (lg_sl ([.ref a, .int (nI i)]) ++ List.replicate (2 - (lg_sl ([.ref a, .int (nI i)])).length) Slot.unset).toArray = ls at hl ⊢
  have hl : lv_has ls 2 [(0, .ref a), (1, .int (nI i))] := hl
  refine g_start hPr (fun H locs hG => ?_)
  refine lv_aload_n hx hb dX1_isLive_0 rfl (lv_at hl 0 rfl) ?_
  refine r_State_live hx hb hts (by decide +kernel) hown hK hG hLa hKa h1a (hts (.fieldLink RX1 15 "DotStores$State" "live" "[J") (by decide +kernel)) dX1_isLive_1 ?_
  refine lv_iload_n hx hb dX1_isLive_4 rfl (lv_at hl 1 rfl) ?_
  refine lv_bipush (v := 64) hx hb dX1_isLive_5 (by decide) ?_
  refine lv_idiv hx hb dX1_isLive_7 (by decide) ?_
  refine lv_topi (fun z1 ez1 => ?_)
  obtain rfl : z1 = nI (i / 64) := ez1.trans (pk_div (a := i) (d := 64) (by omega) (by decide) (by decide))
  refine g_lald hx hb hK hG hLbl hKbl (i / 64) rfl (by rw [hnbl]; omega) (by rw [hnbl]; decide) dX1_isLive_8 ?_
  refine lv_iload_n hx hb dX1_isLive_9 rfl (lv_at hl 1 rfl) ?_
  refine lv_bipush (v := 64) hx hb dX1_isLive_10 (by decide) ?_
  refine lv_irem hx hb dX1_isLive_12 (by decide) ?_
  refine lv_topi (fun z2 ez2 => ?_)
  obtain rfl : z2 = nI (i % 64) := ez2.trans (pk_rem (a := i) (d := 64) (by omega) (by decide) (by decide))
  refine lv_lushr hx hb dX1_isLive_13 rfl ?_
  refine lv_lconst (v := 1) hx hb dX1_isLive_14 (by decide) ?_
  refine lv_land hx hb dX1_isLive_15 ?_
  refine lv_lconst (v := 0) hx hb dX1_isLive_16 (by decide) ?_
  refine W.lcmp hx hb dX1_isLive_17 ?_
  refine lv_if_eq (tgt := 25) hx hb dX1_isLive_18 (by decide) (fun c1 => ?_) (fun c1 => ?_)
  · have c2 := (lb_test (Nat.mod_lt i (by decide))).mp ((lg_cmp_eq _ _).mp c1)
    refine lv_iconst (v := 0) hx hb dX1_isLive_25 (by decide) ?_
    refine W.widen (k := 0) (n := 0) (by omega) (by omega) ?_
    exact W.zret (v := 0) hx hb hr rfl (fun t ht hW => ⟨⟨0, (), rfl, (by unfold rb; rw [c2]; rfl), hG.at ht⟩, hG.2.2.1.F ht⟩) hG.2.2.1.2.2 dX1_isLive_26
  · have c2 := fun z => c1 ((lg_cmp_eq _ _).mpr ((lb_test (Nat.mod_lt i (by decide))).mpr z))
    refine lv_iconst (v := 1) hx hb dX1_isLive_21 (by decide) ?_
    refine lv_goto (tgt := 26) hx hb dX1_isLive_22 (by decide) ?_
    refine W.widen (k := 0) (n := 0) (by omega) (by omega) ?_
    exact W.zret (v := 1) hx hb hr rfl (fun t ht hW => ⟨⟨1, (), rfl, (by unfold rb; rw [ts_nf c2]; rfl), hG.at ht⟩, hG.2.2.1.F ht⟩) hG.2.2.1.2.2 dX1_isLive_26
set_option maxHeartbeats 4000000 in
set_option maxRecDepth 100000 in
/-- State.see(i): the bit i of SEEN is set -/
theorem c_see (l : Launch) (G : gG) (base : Nat) {L : List Nat} {K n : Nat → Nat} {rI : Nat → Nat → Int32} {rJ : Nat → Nat → Int64} {rQ : Nat → Nat → Option Nat} {fI : Nat → Nat → Int32} {fR : Nat → Nat → Option Nat} {a bs bl bt : Nat} (hS : isSt L K n fR a bs bl bt) {i : Nat} (hi : i < 256) : Met l yX1_see wsX1_see ({ frames := 0, cells := 0, slots := 0, locals := 0 }) (va_Pc [.ref a, .int (nI i)] (g_Pr G base (L, K, n, rI, rJ, rQ, fI, fR))) (g_Qv G base (fun u : Nat → Nat → Int64 => (L, K, n, rI, u, rQ, fI, fR)) (fun u => u = g_up rJ bs (i / 64) (rJ bs (i / 64) ||| (1 <<< ((nI (i % 64)).toInt64 &&& 63))))) 0 0 (g_A base) := by
  obtain ⟨hLa, hKa, h0a, h1a, h2a, hLbs, hKbs, hnbs, hLbl, hKbl, hnbl, hLbt, hKbt, hnbt⟩ := hS
  refine Met.ofW (cc := cX1_see) (maxL := 2) (ret := none) (by decide) rfl ?_
  intro p e s m args below meth c s₁ B hml hv
  obtain ⟨rfl, hPr⟩ := hv
  have hx := B.exec
  have hb := B.bytes
  have hr := B.returns
  have hts := atoms_spec (ws := wsX1_see) B.pre
  have hown : s.vm.findClass RX1 = some m.cls := findClass_of_methodNamed B.named
  have hlocks := B.notSynchronized
  have hin : meth.name = "see" := (name_of_methodNamed B.named B.method).1
  have hK := hPr.2.2
  have hG := hPr.gw
  have hl := lv_entry ([.ref a, .int (nI i)]) (n := 2) (Nat.le_of_ble_eq_true rfl)
  rw [lg_entry_eq]
  generalize (lg_sl ([.ref a, .int (nI i)]) ++ List.replicate (2 - (lg_sl ([.ref a, .int (nI i)])).length) Slot.unset).toArray = ls at hl ⊢
  have hl : lv_has ls 2 [(0, .ref a), (1, .int (nI i))] := hl
  refine g_start hPr (fun H locs hG => ?_)
  refine lv_aload_n hx hb dX1_see_0 rfl (lv_at hl 0 rfl) ?_
  refine r_State_seen hx hb hts (by decide +kernel) hown hK hG hLa hKa h0a (hts (.fieldLink RX1 9 "DotStores$State" "seen" "[J") (by decide +kernel)) dX1_see_1 ?_
  refine lv_iload_n hx hb dX1_see_4 rfl (lv_at hl 1 rfl) ?_
  refine lv_bipush (v := 64) hx hb dX1_see_5 (by decide) ?_
  refine lv_idiv hx hb dX1_see_7 (by decide) ?_
  refine lv_topi (fun z1 ez1 => ?_)
  obtain rfl : z1 = nI (i / 64) := ez1.trans (pk_div (a := i) (d := 64) (by omega) (by decide) (by decide))
  refine lv_dup2_11 hx hb dX1_see_8 rfl rfl ?_
  refine g_lald hx hb hK hG hLbs hKbs (i / 64) rfl (by rw [hnbs]; omega) (by rw [hnbs]; decide) dX1_see_9 ?_
  refine lv_lconst (v := 1) hx hb dX1_see_10 (by decide) ?_
  refine lv_iload_n hx hb dX1_see_11 rfl (lv_at hl 1 rfl) ?_
  refine lv_bipush (v := 64) hx hb dX1_see_12 (by decide) ?_
  refine lv_irem hx hb dX1_see_14 (by decide) ?_
  refine lv_topi (fun z2 ez2 => ?_)
  obtain rfl : z2 = nI (i % 64) := ez2.trans (pk_rem (a := i) (d := 64) (by omega) (by decide) (by decide))
  refine lv_lshl hx hb dX1_see_15 rfl ?_
  refine lv_lor hx hb dX1_see_16 ?_
  refine g_last hx hb hK hG hLbs hKbs (i / 64) rfl (by rw [hnbs]; omega) (by rw [hnbs]; decide) dX1_see_17 (fun H locs hG => ?_)
  refine W.widen (k := 0) (n := 0) (by omega) (by omega) ?_
  exact W.vret hx hb hr (fun t ht hW => ⟨⟨_, rfl, rfl, hG.at ht⟩, hG.2.2.1.F ht⟩) hG.2.2.1.2.2 dX1_see_18
set_option maxHeartbeats 4000000 in
set_option maxRecDepth 100000 in
/-- State.enliven(i): the bit i of SEEN and LIVE is set -/
theorem c_enliven (l : Launch) (G : gG) (base : Nat) {L : List Nat} {K n : Nat → Nat} {rI : Nat → Nat → Int32} {rJ : Nat → Nat → Int64} {rQ : Nat → Nat → Option Nat} {fI : Nat → Nat → Int32} {fR : Nat → Nat → Option Nat} {a bs bl bt : Nat} (hS : isSt L K n fR a bs bl bt) {i : Nat} (hi : i < 256) : Met l yX1_enliven wsX1_enliven ({ frames := 1, cells := 0, slots := 0, locals := 21 }) (va_Pc [.ref a, .int (nI i)] (g_Pr G base (L, K, n, rI, rJ, rQ, fI, fR))) (g_Qv G base (fun u : Nat → Nat → Int64 => (L, K, n, rI, u, rQ, fI, fR)) (fun u => u = g_up (g_up rJ bs (i / 64) (rJ bs (i / 64) ||| (1 <<< ((nI (i % 64)).toInt64 &&& 63)))) bl (i / 64) (g_up rJ bs (i / 64) (rJ bs (i / 64) ||| (1 <<< ((nI (i % 64)).toInt64 &&& 63))) bl (i / 64) ||| (1 <<< ((nI (i % 64)).toInt64 &&& 63))))) 0 0 (g_A base) := by
  have hS0 := hS
  obtain ⟨hLa, hKa, h0a, h1a, h2a, hLbs, hKbs, hnbs, hLbl, hKbl, hnbl, hLbt, hKbt, hnbt⟩ := hS0
  refine Met.ofW (cc := cX1_enliven) (maxL := 2) (ret := none) (by decide) rfl ?_
  intro p e s m args below meth c s₁ B hml hv
  obtain ⟨rfl, hPr⟩ := hv
  have hx := B.exec
  have hb := B.bytes
  have hr := B.returns
  have hts := atoms_spec (ws := wsX1_enliven) B.pre
  have hown : s.vm.findClass RX1 = some m.cls := findClass_of_methodNamed B.named
  have hlocks := B.notSynchronized
  have hin : meth.name = "enliven" := (name_of_methodNamed B.named B.method).1
  have hK := hPr.2.2
  have hG := hPr.gw
  have hl := lv_entry ([.ref a, .int (nI i)]) (n := 2) (Nat.le_of_ble_eq_true rfl)
  rw [lg_entry_eq]
  generalize (lg_sl ([.ref a, .int (nI i)]) ++ List.replicate (2 - (lg_sl ([.ref a, .int (nI i)])).length) Slot.unset).toArray = ls at hl ⊢
  have hl : lv_has ls 2 [(0, .ref a), (1, .int (nI i))] := hl
  refine g_start hPr (fun H locs hG => ?_)
  refine lv_aload_n hx hb dX1_enliven_0 rfl (lv_at hl 0 rfl) ?_
  refine lv_iload_n hx hb dX1_enliven_1 rfl (lv_at hl 1 rfl) ?_
  refine g_callv (va_runV (As := [.int (nI i)]) (rest := []) ⟨hx, hb, hml, hown, hts⟩ (c_see l G base hS hi) (cwV 1 hts gX1_enliven_X1_see rfl rfl rfl (by decide +kernel) ⟨(Nat.le_of_ble_eq_true rfl), (Nat.le_of_ble_eq_true rfl)⟩) (g_pv1 hK hG hLa hKa) rfl rfl hl.1 rfl (lv_room (Nat.le_of_ble_eq_true rfl)) dX1_enliven_2 ⟨(Nat.le_of_ble_eq_true rfl), (Nat.le_of_ble_eq_true rfl)⟩) hG (fun u H locs hp hG => ?_)
  refine lv_aload_n hx hb dX1_enliven_5 rfl (lv_at hl 0 rfl) ?_
  refine r_State_live hx hb hts (by decide +kernel) hown hK hG hLa hKa h1a (hts (.fieldLink RX1 15 "DotStores$State" "live" "[J") (by decide +kernel)) dX1_enliven_6 ?_
  refine lv_iload_n hx hb dX1_enliven_9 rfl (lv_at hl 1 rfl) ?_
  refine lv_bipush (v := 64) hx hb dX1_enliven_10 (by decide) ?_
  refine lv_idiv hx hb dX1_enliven_12 (by decide) ?_
  refine lv_topi (fun z1 ez1 => ?_)
  obtain rfl : z1 = nI (i / 64) := ez1.trans (pk_div (a := i) (d := 64) (by omega) (by decide) (by decide))
  refine lv_dup2_11 hx hb dX1_enliven_13 rfl rfl ?_
  refine g_lald hx hb hK hG hLbl hKbl (i / 64) rfl (by rw [hnbl]; omega) (by rw [hnbl]; decide) dX1_enliven_14 ?_
  refine lv_lconst (v := 1) hx hb dX1_enliven_15 (by decide) ?_
  refine lv_iload_n hx hb dX1_enliven_16 rfl (lv_at hl 1 rfl) ?_
  refine lv_bipush (v := 64) hx hb dX1_enliven_17 (by decide) ?_
  refine lv_irem hx hb dX1_enliven_19 (by decide) ?_
  refine lv_topi (fun z2 ez2 => ?_)
  obtain rfl : z2 = nI (i % 64) := ez2.trans (pk_rem (a := i) (d := 64) (by omega) (by decide) (by decide))
  refine lv_lshl hx hb dX1_enliven_20 rfl ?_
  refine lv_lor hx hb dX1_enliven_21 ?_
  refine g_last hx hb hK hG hLbl hKbl (i / 64) rfl (by rw [hnbl]; omega) (by rw [hnbl]; decide) dX1_enliven_22 (fun H locs hG => ?_)
  refine W.widen (k := 0) (n := 0) (by omega) (by omega) ?_
  exact W.vret hx hb hr (fun t ht hW => ⟨⟨_, rfl, (by rw [hp]), hG.at ht⟩, hG.2.2.1.F ht⟩) hG.2.2.1.2.2 dX1_enliven_23
set_option maxHeartbeats 4000000 in
set_option maxRecDepth 100000 in
/-- State.takeDots(o) -/
theorem c_takeDots (l : Launch) (G : gG) (base : Nat) {L : List Nat} {K n : Nat → Nat} {rI : Nat → Nat → Int32} {rJ : Nat → Nat → Int64} {rQ : Nat → Nat → Option Nat} {fI : Nat → Nat → Int32} {fR : Nat → Nat → Option Nat} {a bs bl bt o os ol ot : Nat} (hS : isSt L K n fR a bs bl bt) (hO : isSt L K n fR o os ol ot) (hne : bl ≠ bs) : Met l yX1_takeDots wsX1_takeDots ({ frames := 0, cells := 0, slots := 0, locals := 0 }) (va_Pc [.ref a, .ref o] (g_Pr G base (L, K, n, rI, rJ, rQ, fI, fR))) (g_Qi G base (fun u : Bool × (Nat → Nat → Int64) => (L, K, n, rI, u.2, rQ, fI, fR)) (fun r u => r = bi u.1 ∧ tD bs bl os ol rJ u.2 4 ∧ (u.1 = false ↔ ∀ j, j < 4 → u.2 bl j = rJ bl j ∧ u.2 bs j = rJ bs j))) 0 0 (g_A base) := by
  have hS0 := hS
  have hO0 := hO
  obtain ⟨hLa, hKa, h0a, h1a, h2a, hLbs, hKbs, hnbs, hLbl, hKbl, hnbl, hLbt, hKbt, hnbt⟩ := hS0
  obtain ⟨hLo, hKo, h0o, h1o, h2o, hLos, hKos, hnos, hLol, hKol, hnol, hLot, hKot, hnot⟩ := hO0
  refine Met.ofW (cc := cX1_takeDots) (maxL := 10) (ret := (some .boolean)) (by decide) rfl ?_
  intro p e s m args below meth c s₁ B hml hv
  obtain ⟨rfl, hPr⟩ := hv
  have hx := B.exec
  have hb := B.bytes
  have hr := B.returns
  have hts := atoms_spec (ws := wsX1_takeDots) B.pre
  have hown : s.vm.findClass RX1 = some m.cls := findClass_of_methodNamed B.named
  have hlocks := B.notSynchronized
  have hin : meth.name = "takeDots" := (name_of_methodNamed B.named B.method).1
  have hK := hPr.2.2
  have hG := hPr.gw
  have hl := lv_entry ([.ref a, .ref o]) (n := 10) (Nat.le_of_ble_eq_true rfl)
  rw [lg_entry_eq]
  generalize (lg_sl ([.ref a, .ref o]) ++ List.replicate (10 - (lg_sl ([.ref a, .ref o])).length) Slot.unset).toArray = ls at hl ⊢
  have hl : lv_has ls 10 [(0, .ref a), (1, .ref o)] := hl
  refine g_start hPr (fun H locs hG => ?_)
  refine lv_iconst (v := 0) hx hb dX1_takeDots_0 (by decide) ?_
  refine lv_istore_n (lv' := [(2, .int 0), (0, .ref a), (1, .ref o)]) hx hb dX1_takeDots_1 rfl hl (by decide) rfl (fun ls hl => ?_)
  refine lv_iconst (v := 0) hx hb dX1_takeDots_2 (by decide) ?_
  refine lv_istore_n (lv' := [(3, .int 0), (2, .int 0), (0, .ref a), (1, .ref o)]) hx hb dX1_takeDots_3 rfl hl (by decide) rfl (fun ls hl => ?_)
  obtain ⟨w, ew⟩ : ∃ w : Nat, w = 0 := ⟨_, rfl⟩
  obtain ⟨cg, ecg⟩ : ∃ b : Bool, b = false := ⟨_, rfl⟩
  obtain ⟨r1, er1⟩ : ∃ z, z = rJ := ⟨_, rfl⟩
  replace hl : lv_has ls 10 [(0, .ref a), (1, .ref o), (2, .int (bi cg)), (3, .int (nI w))] := by rw [ew, ecg]; exact (lv_sub hl [2, 3, 1, 0] rfl)
  replace hG : gw G base s.heap (L, K, n, rI, r1, rQ, fI, fR) H locs := by rw [er1]; exact hG
  have inv : w ≤ 4 ∧ tD bs bl os ol rJ r1 w ∧ (cg = false ↔ ∀ j, j < w → r1 bl j = rJ bl j ∧ r1 bs j = rJ bs j) := by
    rw [ew, ecg, er1]
    exact ⟨by omega, tD_0 _ _ _ _ _, fun _ j h => absurd h (Nat.not_lt_zero j), fun _ => rfl⟩
  have hf : 4 < w + 5 := by omega
  clear ew ecg er1
  generalize 5 = d at hf
  induction d generalizing w cg r1 H locs ls with
  | zero => exact absurd hf (by have := inv.1; omega)
  | succ d ih =>
    obtain ⟨hw, htd, hcg⟩ := inv
    refine lv_iload_n hx hb dX1_takeDots_4 rfl (lv_at hl 3 rfl) ?_
    refine lv_iconst (v := 4) hx hb dX1_takeDots_5 (by decide) ?_
    refine lv_icmp_ge (tgt := 120) hx hb dX1_takeDots_6 (by decide) (fun c0 => ?_) (fun c0 => ?_)
    · have hw4 : w = 4 := by
        rcases Nat.lt_or_ge w 4 with q | q
        · exact absurd c0 (nI_ge q (by decide))
        · omega
      subst hw4
      refine lv_iload_n hx hb dX1_takeDots_120 rfl (lv_at hl 2 rfl) ?_
      refine W.widen (k := 0) (n := 0) (by omega) (by omega) ?_
      exact W.zret (v := (bi cg)) hx hb hr (bi_nar cg) (fun t ht hW => ⟨⟨(bi cg), (cg, r1), rfl, ⟨rfl, htd, hcg⟩, hG.at ht⟩, hG.2.2.1.F ht⟩) hG.2.2.1.2.2 dX1_takeDots_121
    · have hw4 : w < 4 := by
        rcases Nat.lt_or_ge w 4 with q | q
        · exact q
        · exact absurd (nI_le (a := 4) q (by omega)) c0
      refine lv_aload_n hx hb dX1_takeDots_9 rfl (lv_at hl 0 rfl) ?_
      refine r_State_live hx hb hts (by decide +kernel) hown hK hG hLa hKa h1a (hts (.fieldLink RX1 15 "DotStores$State" "live" "[J") (by decide +kernel)) dX1_takeDots_10 ?_
      refine lv_iload_n hx hb dX1_takeDots_13 rfl (lv_at hl 3 rfl) ?_
      refine g_lald hx hb hK hG hLbl hKbl (w) rfl (by rw [hnbl]; omega) (by rw [hnbl]; decide) dX1_takeDots_14 ?_
      refine lv_aload_n hx hb dX1_takeDots_15 rfl (lv_at hl 1 rfl) ?_
      refine r_State_live hx hb hts (by decide +kernel) hown hK hG hLo hKo h1o (hts (.fieldLink RX1 15 "DotStores$State" "live" "[J") (by decide +kernel)) dX1_takeDots_16 ?_
      refine lv_iload_n hx hb dX1_takeDots_19 rfl (lv_at hl 3 rfl) ?_
      refine g_lald hx hb hK hG hLol hKol (w) rfl (by rw [hnol]; omega) (by rw [hnol]; decide) dX1_takeDots_20 ?_
      refine lv_aload_n hx hb dX1_takeDots_21 rfl (lv_at hl 1 rfl) ?_
      refine r_State_seen hx hb hts (by decide +kernel) hown hK hG hLo hKo h0o (hts (.fieldLink RX1 9 "DotStores$State" "seen" "[J") (by decide +kernel)) dX1_takeDots_22 ?_
      refine lv_iload_n hx hb dX1_takeDots_25 rfl (lv_at hl 3 rfl) ?_
      refine g_lald hx hb hK hG hLos hKos (w) rfl (by rw [hnos]; omega) (by rw [hnos]; decide) dX1_takeDots_26 ?_
      refine lv_ldc2 (v := (-1)) hx hb hown (hts (.constantLong RX1 43 (-1)) (by decide +kernel)) dX1_takeDots_27 ?_
      refine lv_lxor hx hb dX1_takeDots_30 ?_
      refine lv_lor hx hb dX1_takeDots_31 ?_
      refine lv_land hx hb dX1_takeDots_32 ?_
      refine lv_lstore (lv' := [(4, .long ((r1 bl (w)) &&& ((r1 ol (w)) ||| ((r1 os (w)) ^^^ (-1))))), (0, .ref a), (1, .ref o), (2, .int (bi cg)), (3, .int (nI w))]) hx hb dX1_takeDots_33 hl (by decide) rfl (fun ls hl => ?_)
      refine lv_lload hx hb dX1_takeDots_35 (lv_at hl 0 rfl) ?_
      refine lv_aload_n hx hb dX1_takeDots_37 rfl (lv_at hl 2 rfl) ?_
      refine r_State_live hx hb hts (by decide +kernel) hown hK hG hLo hKo h1o (hts (.fieldLink RX1 15 "DotStores$State" "live" "[J") (by decide +kernel)) dX1_takeDots_38 ?_
      refine lv_iload_n hx hb dX1_takeDots_41 rfl (lv_at hl 4 rfl) ?_
      refine g_lald hx hb hK hG hLol hKol (w) rfl (by rw [hnol]; omega) (by rw [hnol]; decide) dX1_takeDots_42 ?_
      refine lv_aload_n hx hb dX1_takeDots_43 rfl (lv_at hl 1 rfl) ?_
      refine r_State_seen hx hb hts (by decide +kernel) hown hK hG hLa hKa h0a (hts (.fieldLink RX1 9 "DotStores$State" "seen" "[J") (by decide +kernel)) dX1_takeDots_44 ?_
      refine lv_iload_n hx hb dX1_takeDots_47 rfl (lv_at hl 4 rfl) ?_
      refine g_lald hx hb hK hG hLbs hKbs (w) rfl (by rw [hnbs]; omega) (by rw [hnbs]; decide) dX1_takeDots_48 ?_
      refine lv_ldc2 (v := (-1)) hx hb hown (hts (.constantLong RX1 43 (-1)) (by decide +kernel)) dX1_takeDots_49 ?_
      refine lv_lxor hx hb dX1_takeDots_52 ?_
      refine lv_land hx hb dX1_takeDots_53 ?_
      refine lv_lor hx hb dX1_takeDots_54 ?_
      refine lv_topl (fun z1 ez1 => ?_)
      obtain rfl : z1 = jl (r1 bl w) (r1 bs w) (r1 ol w) (r1 os w) := ez1.trans (rfl)
      refine lv_lstore (lv' := [(6, .long (jl (r1 bl w) (r1 bs w) (r1 ol w) (r1 os w))), (4, .long ((r1 bl (w)) &&& ((r1 ol (w)) ||| ((r1 os (w)) ^^^ (-1))))), (0, .ref a), (1, .ref o), (2, .int (bi cg)), (3, .int (nI w))]) hx hb dX1_takeDots_55 hl (by decide) rfl (fun ls hl => ?_)
      refine lv_aload_n hx hb dX1_takeDots_57 rfl (lv_at hl 2 rfl) ?_
      refine r_State_seen hx hb hts (by decide +kernel) hown hK hG hLa hKa h0a (hts (.fieldLink RX1 9 "DotStores$State" "seen" "[J") (by decide +kernel)) dX1_takeDots_58 ?_
      refine lv_iload_n hx hb dX1_takeDots_61 rfl (lv_at hl 5 rfl) ?_
      refine g_lald hx hb hK hG hLbs hKbs (w) rfl (by rw [hnbs]; omega) (by rw [hnbs]; decide) dX1_takeDots_62 ?_
      refine lv_aload_n hx hb dX1_takeDots_63 rfl (lv_at hl 3 rfl) ?_
      refine r_State_seen hx hb hts (by decide +kernel) hown hK hG hLo hKo h0o (hts (.fieldLink RX1 9 "DotStores$State" "seen" "[J") (by decide +kernel)) dX1_takeDots_64 ?_
      refine lv_iload_n hx hb dX1_takeDots_67 rfl (lv_at hl 5 rfl) ?_
      refine g_lald hx hb hK hG hLos hKos (w) rfl (by rw [hnos]; omega) (by rw [hnos]; decide) dX1_takeDots_68 ?_
      refine lv_lor hx hb dX1_takeDots_69 ?_
      refine lv_lstore (lv' := [(8, .long ((r1 bs (w)) ||| (r1 os (w)))), (6, .long (jl (r1 bl w) (r1 bs w) (r1 ol w) (r1 os w))), (4, .long ((r1 bl (w)) &&& ((r1 ol (w)) ||| ((r1 os (w)) ^^^ (-1))))), (0, .ref a), (1, .ref o), (2, .int (bi cg)), (3, .int (nI w))]) hx hb dX1_takeDots_70 hl (by decide) rfl (fun ls hl => ?_)
      refine lv_lload hx hb dX1_takeDots_72 (lv_at hl 1 rfl) ?_
      refine lv_aload_n hx hb dX1_takeDots_74 rfl (lv_at hl 3 rfl) ?_
      refine r_State_live hx hb hts (by decide +kernel) hown hK hG hLa hKa h1a (hts (.fieldLink RX1 15 "DotStores$State" "live" "[J") (by decide +kernel)) dX1_takeDots_75 ?_
      refine lv_iload_n hx hb dX1_takeDots_78 rfl (lv_at hl 6 rfl) ?_
      refine g_lald hx hb hK hG hLbl hKbl (w) rfl (by rw [hnbl]; omega) (by rw [hnbl]; decide) dX1_takeDots_79 ?_
      refine W.lcmp hx hb dX1_takeDots_80 ?_
      refine lv_if_ne (tgt := 96) hx hb dX1_takeDots_81 (by decide) (fun c1 => ?_) (fun c1 => ?_)
      · have hc : ¬ jl (r1 bl w) (r1 bs w) (r1 ol w) (r1 os w) = r1 bl w ∨ ¬ (r1 bs w ||| r1 os w) = r1 bs w := Or.inl (fun z => c1 ((lg_cmp_eq _ _).mpr z))
        refine lv_iconst (v := 1) hx hb dX1_takeDots_96 (by decide) ?_
        refine lv_istore_n (lv' := [(2, .int 1), (8, .long ((r1 bs (w)) ||| (r1 os (w)))), (6, .long (jl (r1 bl w) (r1 bs w) (r1 ol w) (r1 os w))), (4, .long ((r1 bl (w)) &&& ((r1 ol (w)) ||| ((r1 os (w)) ^^^ (-1))))), (0, .ref a), (1, .ref o), (3, .int (nI w))]) hx hb dX1_takeDots_97 rfl hl (by decide) rfl (fun ls hl => ?_)
        refine lv_aload_n hx hb dX1_takeDots_98 rfl (lv_at hl 4 rfl) ?_
        refine r_State_live hx hb hts (by decide +kernel) hown hK hG hLa hKa h1a (hts (.fieldLink RX1 15 "DotStores$State" "live" "[J") (by decide +kernel)) dX1_takeDots_99 ?_
        refine lv_iload_n hx hb dX1_takeDots_102 rfl (lv_at hl 6 rfl) ?_
        refine lv_lload hx hb dX1_takeDots_103 (lv_at hl 2 rfl) ?_
        refine g_last hx hb hK hG hLbl hKbl (w) rfl (by rw [hnbl]; omega) (by rw [hnbl]; decide) dX1_takeDots_105 (fun H locs hG => ?_)
        refine lv_aload_n hx hb dX1_takeDots_106 rfl (lv_at hl 4 rfl) ?_
        refine r_State_seen hx hb hts (by decide +kernel) hown hK hG hLa hKa h0a (hts (.fieldLink RX1 9 "DotStores$State" "seen" "[J") (by decide +kernel)) dX1_takeDots_107 ?_
        refine lv_iload_n hx hb dX1_takeDots_110 rfl (lv_at hl 6 rfl) ?_
        refine lv_lload hx hb dX1_takeDots_111 (lv_at hl 1 rfl) ?_
        refine g_last hx hb hK hG hLbs hKbs (w) rfl (by rw [hnbs]; omega) (by rw [hnbs]; decide) dX1_takeDots_113 (fun H locs hG => ?_)
        refine lv_iinc (v := (nI (w + 1))) (lv' := [(3, .int (nI (w + 1))), (2, .int 1), (8, .long ((r1 bs (w)) ||| (r1 os (w)))), (6, .long (jl (r1 bl w) (r1 bs w) (r1 ol w) (r1 os w))), (4, .long ((r1 bl (w)) &&& ((r1 ol (w)) ||| ((r1 os (w)) ^^^ (-1))))), (0, .ref a), (1, .ref o)]) hx hb dX1_takeDots_114 hl (k := 6) rfl (nI_1 w) (by decide) rfl (fun ls hl => ?_)
        refine lv_goto (tgt := 4) hx hb dX1_takeDots_117 (by decide) ?_
        exact ih (w := w + 1) (cg := true) (hl := (lv_sub hl [5, 6, 1, 0] rfl)) (hG := hG) (inv := ⟨by omega, tD_s hne htd, td_t hne htd hc⟩) (hf := by omega)
      · have c1 := (lg_cmp_eq _ _).mp c1
        refine lv_lload hx hb dX1_takeDots_84 (lv_at hl 0 rfl) ?_
        refine lv_aload_n hx hb dX1_takeDots_86 rfl (lv_at hl 3 rfl) ?_
        refine r_State_seen hx hb hts (by decide +kernel) hown hK hG hLa hKa h0a (hts (.fieldLink RX1 9 "DotStores$State" "seen" "[J") (by decide +kernel)) dX1_takeDots_87 ?_
        refine lv_iload_n hx hb dX1_takeDots_90 rfl (lv_at hl 6 rfl) ?_
        refine g_lald hx hb hK hG hLbs hKbs (w) rfl (by rw [hnbs]; omega) (by rw [hnbs]; decide) dX1_takeDots_91 ?_
        refine W.lcmp hx hb dX1_takeDots_92 ?_
        refine lv_if_eq (tgt := 98) hx hb dX1_takeDots_93 (by decide) (fun c2 => ?_) (fun c2 => ?_)
        · have hc := And.intro c1 ((lg_cmp_eq _ _).mp c2)
          refine lv_aload_n hx hb dX1_takeDots_98 rfl (lv_at hl 3 rfl) ?_
          refine r_State_live hx hb hts (by decide +kernel) hown hK hG hLa hKa h1a (hts (.fieldLink RX1 15 "DotStores$State" "live" "[J") (by decide +kernel)) dX1_takeDots_99 ?_
          refine lv_iload_n hx hb dX1_takeDots_102 rfl (lv_at hl 6 rfl) ?_
          refine lv_lload hx hb dX1_takeDots_103 (lv_at hl 1 rfl) ?_
          refine g_last hx hb hK hG hLbl hKbl (w) rfl (by rw [hnbl]; omega) (by rw [hnbl]; decide) dX1_takeDots_105 (fun H locs hG => ?_)
          refine lv_aload_n hx hb dX1_takeDots_106 rfl (lv_at hl 3 rfl) ?_
          refine r_State_seen hx hb hts (by decide +kernel) hown hK hG hLa hKa h0a (hts (.fieldLink RX1 9 "DotStores$State" "seen" "[J") (by decide +kernel)) dX1_takeDots_107 ?_
          refine lv_iload_n hx hb dX1_takeDots_110 rfl (lv_at hl 6 rfl) ?_
          refine lv_lload hx hb dX1_takeDots_111 (lv_at hl 0 rfl) ?_
          refine g_last hx hb hK hG hLbs hKbs (w) rfl (by rw [hnbs]; omega) (by rw [hnbs]; decide) dX1_takeDots_113 (fun H locs hG => ?_)
          refine lv_iinc (v := (nI (w + 1))) (lv' := [(3, .int (nI (w + 1))), (8, .long ((r1 bs (w)) ||| (r1 os (w)))), (6, .long (jl (r1 bl w) (r1 bs w) (r1 ol w) (r1 os w))), (4, .long ((r1 bl (w)) &&& ((r1 ol (w)) ||| ((r1 os (w)) ^^^ (-1))))), (0, .ref a), (1, .ref o), (2, .int (bi cg))]) hx hb dX1_takeDots_114 hl (k := 6) rfl (nI_1 w) (by decide) rfl (fun ls hl => ?_)
          refine lv_goto (tgt := 4) hx hb dX1_takeDots_117 (by decide) ?_
          exact ih (w := w + 1) (cg := cg) (hl := (lv_sub hl [4, 5, 6, 0] rfl)) (hG := hG) (inv := ⟨by omega, tD_s hne htd, td_f hne htd hcg hc⟩) (hf := by omega)
        · have hc : ¬ jl (r1 bl w) (r1 bs w) (r1 ol w) (r1 os w) = r1 bl w ∨ ¬ (r1 bs w ||| r1 os w) = r1 bs w := Or.inr (fun z => c2 ((lg_cmp_eq _ _).mpr z))
          refine lv_iconst (v := 1) hx hb dX1_takeDots_96 (by decide) ?_
          refine lv_istore_n (lv' := [(2, .int 1), (8, .long ((r1 bs (w)) ||| (r1 os (w)))), (6, .long (jl (r1 bl w) (r1 bs w) (r1 ol w) (r1 os w))), (4, .long ((r1 bl (w)) &&& ((r1 ol (w)) ||| ((r1 os (w)) ^^^ (-1))))), (0, .ref a), (1, .ref o), (3, .int (nI w))]) hx hb dX1_takeDots_97 rfl hl (by decide) rfl (fun ls hl => ?_)
          refine lv_aload_n hx hb dX1_takeDots_98 rfl (lv_at hl 4 rfl) ?_
          refine r_State_live hx hb hts (by decide +kernel) hown hK hG hLa hKa h1a (hts (.fieldLink RX1 15 "DotStores$State" "live" "[J") (by decide +kernel)) dX1_takeDots_99 ?_
          refine lv_iload_n hx hb dX1_takeDots_102 rfl (lv_at hl 6 rfl) ?_
          refine lv_lload hx hb dX1_takeDots_103 (lv_at hl 2 rfl) ?_
          refine g_last hx hb hK hG hLbl hKbl (w) rfl (by rw [hnbl]; omega) (by rw [hnbl]; decide) dX1_takeDots_105 (fun H locs hG => ?_)
          refine lv_aload_n hx hb dX1_takeDots_106 rfl (lv_at hl 4 rfl) ?_
          refine r_State_seen hx hb hts (by decide +kernel) hown hK hG hLa hKa h0a (hts (.fieldLink RX1 9 "DotStores$State" "seen" "[J") (by decide +kernel)) dX1_takeDots_107 ?_
          refine lv_iload_n hx hb dX1_takeDots_110 rfl (lv_at hl 6 rfl) ?_
          refine lv_lload hx hb dX1_takeDots_111 (lv_at hl 1 rfl) ?_
          refine g_last hx hb hK hG hLbs hKbs (w) rfl (by rw [hnbs]; omega) (by rw [hnbs]; decide) dX1_takeDots_113 (fun H locs hG => ?_)
          refine lv_iinc (v := (nI (w + 1))) (lv' := [(3, .int (nI (w + 1))), (2, .int 1), (8, .long ((r1 bs (w)) ||| (r1 os (w)))), (6, .long (jl (r1 bl w) (r1 bs w) (r1 ol w) (r1 os w))), (4, .long ((r1 bl (w)) &&& ((r1 ol (w)) ||| ((r1 os (w)) ^^^ (-1))))), (0, .ref a), (1, .ref o)]) hx hb dX1_takeDots_114 hl (k := 6) rfl (nI_1 w) (by decide) rfl (fun ls hl => ?_)
          refine lv_goto (tgt := 4) hx hb dX1_takeDots_117 (by decide) ?_
          exact ih (w := w + 1) (cg := true) (hl := (lv_sub hl [5, 6, 1, 0] rfl)) (hG := hG) (inv := ⟨by omega, tD_s hne htd, td_t hne htd hc⟩) (hf := by omega)
set_option maxHeartbeats 4000000 in
set_option maxRecDepth 100000 in
/-- State.takeTwice(o) -/
theorem c_takeTwice (l : Launch) (G : gG) (base : Nat) {L : List Nat} {K n : Nat → Nat} {rI : Nat → Nat → Int32} {rJ : Nat → Nat → Int64} {rQ : Nat → Nat → Option Nat} {fI : Nat → Nat → Int32} {fR : Nat → Nat → Option Nat} {a bs bl bt o os ol ot : Nat} (hS : isSt L K n fR a bs bl bt) (hO : isSt L K n fR o os ol ot) : Met l yX1_takeTwice wsX1_takeTwice ({ frames := 0, cells := 0, slots := 0, locals := 0 }) (va_Pc [.ref a, .ref o] (g_Pr G base (L, K, n, rI, rJ, rQ, fI, fR))) (g_Qi G base (fun u : Bool × (Nat → Nat → Int32) => (L, K, n, rI, rJ, rQ, u.2, fR)) (fun r u => r = bi u.1 ∧ u.2 = g_up (g_up fI a 3 (fI a 3 ||| fI o 3)) a 4 (fI a 4 ||| fI o 4) ∧ (u.1 = false ↔ (fI a 3 ||| fI o 3) = fI a 3 ∧ (fI a 4 ||| fI o 4) = fI a 4))) 0 0 (g_A base) := by
  have hS0 := hS
  have hO0 := hO
  obtain ⟨hLa, hKa, h0a, h1a, h2a, hLbs, hKbs, hnbs, hLbl, hKbl, hnbl, hLbt, hKbt, hnbt⟩ := hS0
  obtain ⟨hLo, hKo, h0o, h1o, h2o, hLos, hKos, hnos, hLol, hKol, hnol, hLot, hKot, hnot⟩ := hO0
  refine Met.ofW (cc := cX1_takeTwice) (maxL := 5) (ret := (some .boolean)) (by decide) rfl ?_
  intro p e s m args below meth c s₁ B hml hv
  obtain ⟨rfl, hPr⟩ := hv
  have hx := B.exec
  have hb := B.bytes
  have hr := B.returns
  have hts := atoms_spec (ws := wsX1_takeTwice) B.pre
  have hown : s.vm.findClass RX1 = some m.cls := findClass_of_methodNamed B.named
  have hlocks := B.notSynchronized
  have hin : meth.name = "takeTwice" := (name_of_methodNamed B.named B.method).1
  have hK := hPr.2.2
  have hG := hPr.gw
  have hl := lv_entry ([.ref a, .ref o]) (n := 5) (Nat.le_of_ble_eq_true rfl)
  rw [lg_entry_eq]
  generalize (lg_sl ([.ref a, .ref o]) ++ List.replicate (5 - (lg_sl ([.ref a, .ref o])).length) Slot.unset).toArray = ls at hl ⊢
  have hl : lv_has ls 5 [(0, .ref a), (1, .ref o)] := hl
  refine g_start hPr (fun H locs hG => ?_)
  refine lv_aload_n hx hb dX1_takeTwice_0 rfl (lv_at hl 0 rfl) ?_
  refine r_State_put hx hb hts (by decide +kernel) hown hK hG hLa hKa (hts (.fieldLink RX1 22 "DotStores$State" "put" "I") (by decide +kernel)) dX1_takeTwice_1 ?_
  refine lv_aload_n hx hb dX1_takeTwice_4 rfl (lv_at hl 1 rfl) ?_
  refine r_State_put hx hb hts (by decide +kernel) hown hK hG hLo hKo (hts (.fieldLink RX1 22 "DotStores$State" "put" "I") (by decide +kernel)) dX1_takeTwice_5 ?_
  refine lv_ior hx hb dX1_takeTwice_8 ?_
  refine lv_istore_n (lv' := [(2, .int ((fI a 3) ||| (fI o 3))), (0, .ref a), (1, .ref o)]) hx hb dX1_takeTwice_9 rfl hl (by decide) rfl (fun ls hl => ?_)
  refine lv_aload_n hx hb dX1_takeTwice_10 rfl (lv_at hl 1 rfl) ?_
  refine r_State_taken hx hb hts (by decide +kernel) hown hK hG hLa hKa (hts (.fieldLink RX1 26 "DotStores$State" "taken" "I") (by decide +kernel)) dX1_takeTwice_11 ?_
  refine lv_aload_n hx hb dX1_takeTwice_14 rfl (lv_at hl 2 rfl) ?_
  refine r_State_taken hx hb hts (by decide +kernel) hown hK hG hLo hKo (hts (.fieldLink RX1 26 "DotStores$State" "taken" "I") (by decide +kernel)) dX1_takeTwice_15 ?_
  refine lv_ior hx hb dX1_takeTwice_18 ?_
  refine lv_istore_n (lv' := [(3, .int ((fI a 4) ||| (fI o 4))), (2, .int ((fI a 3) ||| (fI o 3))), (0, .ref a), (1, .ref o)]) hx hb dX1_takeTwice_19 rfl hl (by decide) rfl (fun ls hl => ?_)
  refine lv_iload_n hx hb dX1_takeTwice_20 rfl (lv_at hl 1 rfl) ?_
  refine lv_aload_n hx hb dX1_takeTwice_21 rfl (lv_at hl 2 rfl) ?_
  refine r_State_put hx hb hts (by decide +kernel) hown hK hG hLa hKa (hts (.fieldLink RX1 22 "DotStores$State" "put" "I") (by decide +kernel)) dX1_takeTwice_22 ?_
  refine lv_icmp_ne (tgt := 36) hx hb dX1_takeTwice_25 (by decide) (fun c1 => ?_) (fun c1 => ?_)
  · have hc : ¬ ((fI a 3 ||| fI o 3) = fI a 3 ∧ (fI a 4 ||| fI o 4) = fI a 4) := fun z => c1 z.1
    refine lv_iconst (v := 1) hx hb dX1_takeTwice_36 (by decide) ?_
    refine lv_goto (tgt := 41) hx hb dX1_takeTwice_37 (by decide) ?_
    refine lv_istore (lv' := [(4, .int 1), (3, .int ((fI a 4) ||| (fI o 4))), (2, .int ((fI a 3) ||| (fI o 3))), (0, .ref a), (1, .ref o)]) hx hb dX1_takeTwice_41 hl (by decide) rfl (fun ls hl => ?_)
    refine lv_aload_n hx hb dX1_takeTwice_43 rfl (lv_at hl 3 rfl) ?_
    refine lv_iload_n hx hb dX1_takeTwice_44 rfl (lv_at hl 2 rfl) ?_
    refine w_State_put hx hb hts (by decide +kernel) hown hK hG hLa hKa (hts (.fieldLink RX1 22 "DotStores$State" "put" "I") (by decide +kernel)) dX1_takeTwice_45 (fun H locs hG => ?_)
    refine lv_aload_n hx hb dX1_takeTwice_48 rfl (lv_at hl 3 rfl) ?_
    refine lv_iload_n hx hb dX1_takeTwice_49 rfl (lv_at hl 1 rfl) ?_
    refine w_State_taken hx hb hts (by decide +kernel) hown hK hG hLa hKa (hts (.fieldLink RX1 26 "DotStores$State" "taken" "I") (by decide +kernel)) dX1_takeTwice_50 (fun H locs hG => ?_)
    refine lv_iload hx hb dX1_takeTwice_53 (lv_at hl 0 rfl) ?_
    refine W.widen (k := 0) (n := 0) (by omega) (by omega) ?_
    exact W.zret (v := 1) hx hb hr rfl (fun t ht hW => ⟨⟨1, (true, _), rfl, ⟨rfl, rfl, ⟨fun q => (nomatch q), fun q => absurd q hc⟩⟩, hG.at ht⟩, hG.2.2.1.F ht⟩) hG.2.2.1.2.2 dX1_takeTwice_55
  · refine lv_iload_n hx hb dX1_takeTwice_28 rfl (lv_at hl 0 rfl) ?_
    refine lv_aload_n hx hb dX1_takeTwice_29 rfl (lv_at hl 2 rfl) ?_
    refine r_State_taken hx hb hts (by decide +kernel) hown hK hG hLa hKa (hts (.fieldLink RX1 26 "DotStores$State" "taken" "I") (by decide +kernel)) dX1_takeTwice_30 ?_
    refine lv_icmp_eq (tgt := 40) hx hb dX1_takeTwice_33 (by decide) (fun c2 => ?_) (fun c2 => ?_)
    · have hc : (fI a 3 ||| fI o 3) = fI a 3 ∧ (fI a 4 ||| fI o 4) = fI a 4 := ⟨c1, c2⟩
      refine lv_iconst (v := 0) hx hb dX1_takeTwice_40 (by decide) ?_
      refine lv_istore (lv' := [(4, .int 0), (3, .int ((fI a 4) ||| (fI o 4))), (2, .int ((fI a 3) ||| (fI o 3))), (0, .ref a), (1, .ref o)]) hx hb dX1_takeTwice_41 hl (by decide) rfl (fun ls hl => ?_)
      refine lv_aload_n hx hb dX1_takeTwice_43 rfl (lv_at hl 3 rfl) ?_
      refine lv_iload_n hx hb dX1_takeTwice_44 rfl (lv_at hl 2 rfl) ?_
      refine w_State_put hx hb hts (by decide +kernel) hown hK hG hLa hKa (hts (.fieldLink RX1 22 "DotStores$State" "put" "I") (by decide +kernel)) dX1_takeTwice_45 (fun H locs hG => ?_)
      refine lv_aload_n hx hb dX1_takeTwice_48 rfl (lv_at hl 3 rfl) ?_
      refine lv_iload_n hx hb dX1_takeTwice_49 rfl (lv_at hl 1 rfl) ?_
      refine w_State_taken hx hb hts (by decide +kernel) hown hK hG hLa hKa (hts (.fieldLink RX1 26 "DotStores$State" "taken" "I") (by decide +kernel)) dX1_takeTwice_50 (fun H locs hG => ?_)
      refine lv_iload hx hb dX1_takeTwice_53 (lv_at hl 0 rfl) ?_
      refine W.widen (k := 0) (n := 0) (by omega) (by omega) ?_
      exact W.zret (v := 0) hx hb hr rfl (fun t ht hW => ⟨⟨0, (false, _), rfl, ⟨rfl, rfl, ⟨fun _ => hc, fun _ => rfl⟩⟩, hG.at ht⟩, hG.2.2.1.F ht⟩) hG.2.2.1.2.2 dX1_takeTwice_55
    · have hc : ¬ ((fI a 3 ||| fI o 3) = fI a 3 ∧ (fI a 4 ||| fI o 4) = fI a 4) := fun z => c2 z.2
      refine lv_iconst (v := 1) hx hb dX1_takeTwice_36 (by decide) ?_
      refine lv_goto (tgt := 41) hx hb dX1_takeTwice_37 (by decide) ?_
      refine lv_istore (lv' := [(4, .int 1), (3, .int ((fI a 4) ||| (fI o 4))), (2, .int ((fI a 3) ||| (fI o 3))), (0, .ref a), (1, .ref o)]) hx hb dX1_takeTwice_41 hl (by decide) rfl (fun ls hl => ?_)
      refine lv_aload_n hx hb dX1_takeTwice_43 rfl (lv_at hl 3 rfl) ?_
      refine lv_iload_n hx hb dX1_takeTwice_44 rfl (lv_at hl 2 rfl) ?_
      refine w_State_put hx hb hts (by decide +kernel) hown hK hG hLa hKa (hts (.fieldLink RX1 22 "DotStores$State" "put" "I") (by decide +kernel)) dX1_takeTwice_45 (fun H locs hG => ?_)
      refine lv_aload_n hx hb dX1_takeTwice_48 rfl (lv_at hl 3 rfl) ?_
      refine lv_iload_n hx hb dX1_takeTwice_49 rfl (lv_at hl 1 rfl) ?_
      refine w_State_taken hx hb hts (by decide +kernel) hown hK hG hLa hKa (hts (.fieldLink RX1 26 "DotStores$State" "taken" "I") (by decide +kernel)) dX1_takeTwice_50 (fun H locs hG => ?_)
      refine lv_iload hx hb dX1_takeTwice_53 (lv_at hl 0 rfl) ?_
      refine W.widen (k := 0) (n := 0) (by omega) (by omega) ?_
      exact W.zret (v := 1) hx hb hr rfl (fun t ht hW => ⟨⟨1, (true, _), rfl, ⟨rfl, rfl, ⟨fun q => (nomatch q), fun q => absurd q hc⟩⟩, hG.at ht⟩, hG.2.2.1.F ht⟩) hG.2.2.1.2.2 dX1_takeTwice_55
set_option maxHeartbeats 4000000 in
set_option maxRecDepth 100000 in
/-- State.takeTimed(o) -/
theorem c_takeTimed (l : Launch) (G : gG) (base : Nat) {L : List Nat} {K n : Nat → Nat} {rI : Nat → Nat → Int32} {rJ : Nat → Nat → Int64} {rQ : Nat → Nat → Option Nat} {fI : Nat → Nat → Int32} {fR : Nat → Nat → Option Nat} {a bs bl bt o os ol ot : Nat} (hS : isSt L K n fR a bs bl bt) (hO : isSt L K n fR o os ol ot) : Met l yX1_takeTimed wsX1_takeTimed ({ frames := 0, cells := 0, slots := 0, locals := 0 }) (va_Pc [.ref a, .ref o] (g_Pr G base (L, K, n, rI, rJ, rQ, fI, fR))) (g_Qi G base (fun u : Bool × (Nat → Nat → Int32) => (L, K, n, u.2, rJ, rQ, fI, fR)) (fun r u => r = bi u.1 ∧ tT bt ot rI u.2 32 ∧ (u.1 = false ↔ ∀ j, j < 32 → u.2 bt j = rI bt j))) 0 0 (g_A base) := by
  have hS0 := hS
  have hO0 := hO
  obtain ⟨hLa, hKa, h0a, h1a, h2a, hLbs, hKbs, hnbs, hLbl, hKbl, hnbl, hLbt, hKbt, hnbt⟩ := hS0
  obtain ⟨hLo, hKo, h0o, h1o, h2o, hLos, hKos, hnos, hLol, hKol, hnol, hLot, hKot, hnot⟩ := hO0
  refine Met.ofW (cc := cX1_takeTimed) (maxL := 4) (ret := (some .boolean)) (by decide) rfl ?_
  intro p e s m args below meth c s₁ B hml hv
  obtain ⟨rfl, hPr⟩ := hv
  have hx := B.exec
  have hb := B.bytes
  have hr := B.returns
  have hts := atoms_spec (ws := wsX1_takeTimed) B.pre
  have hown : s.vm.findClass RX1 = some m.cls := findClass_of_methodNamed B.named
  have hlocks := B.notSynchronized
  have hin : meth.name = "takeTimed" := (name_of_methodNamed B.named B.method).1
  have hK := hPr.2.2
  have hG := hPr.gw
  have hl := lv_entry ([.ref a, .ref o]) (n := 4) (Nat.le_of_ble_eq_true rfl)
  rw [lg_entry_eq]
  generalize (lg_sl ([.ref a, .ref o]) ++ List.replicate (4 - (lg_sl ([.ref a, .ref o])).length) Slot.unset).toArray = ls at hl ⊢
  have hl : lv_has ls 4 [(0, .ref a), (1, .ref o)] := hl
  refine g_start hPr (fun H locs hG => ?_)
  refine lv_iconst (v := 0) hx hb dX1_takeTimed_0 (by decide) ?_
  refine lv_istore_n (lv' := [(2, .int 0), (0, .ref a), (1, .ref o)]) hx hb dX1_takeTimed_1 rfl hl (by decide) rfl (fun ls hl => ?_)
  refine lv_iconst (v := 0) hx hb dX1_takeTimed_2 (by decide) ?_
  refine lv_istore_n (lv' := [(3, .int 0), (2, .int 0), (0, .ref a), (1, .ref o)]) hx hb dX1_takeTimed_3 rfl hl (by decide) rfl (fun ls hl => ?_)
  obtain ⟨w, ew⟩ : ∃ z : Nat, z = 0 := ⟨_, rfl⟩
  obtain ⟨cg, ecg⟩ : ∃ z : Bool, z = false := ⟨_, rfl⟩
  obtain ⟨r1, er1⟩ : ∃ z : Nat → Nat → Int32, z = rI := ⟨_, rfl⟩
  replace hl : lv_has ls 4 [(0, .ref a), (1, .ref o), (2, .int (bi cg)), (3, .int (nI w))] := by subst ew ecg er1; exact (lv_sub hl [2, 3, 1, 0] rfl)
  replace hG : gw G base s.heap (L, K, n, r1, rJ, rQ, fI, fR) H locs := by subst ew ecg er1; exact hG
  have inv : w ≤ 32 ∧ tT bt ot rI r1 w ∧ (cg = false ↔ ∀ j, j < w → r1 bt j = rI bt j) := by
    subst ew ecg er1
    exact ⟨by omega, tT_0 _ _ _, fun _ j h => absurd h (Nat.not_lt_zero j), fun _ => rfl⟩
  have hf : 32 < w + 33 := by omega
  clear ew ecg er1
  generalize 33 = d at hf
  induction d generalizing w cg r1 H locs ls with
  | zero => exact absurd hf (by have := inv.1; omega)
  | succ d ih =>
    obtain ⟨hw, htt, hcg⟩ := inv
    refine lv_iload_n hx hb dX1_takeTimed_4 rfl (lv_at hl 3 rfl) ?_
    refine lv_bipush (v := 32) hx hb dX1_takeTimed_5 (by decide) ?_
    refine lv_icmp_ge (tgt := 45) hx hb dX1_takeTimed_7 (by decide) (fun c0 => ?_) (fun c0 => ?_)
    · have hw : w = 32 := by
        rcases Nat.lt_or_ge w 32 with q | q
        · exact absurd c0 (nI_ge q (by decide))
        · omega
      subst hw
      refine lv_iload_n hx hb dX1_takeTimed_45 rfl (lv_at hl 2 rfl) ?_
      refine W.widen (k := 0) (n := 0) (by omega) (by omega) ?_
      exact W.zret (v := (bi cg)) hx hb hr (bi_nar cg) (fun t ht hW => ⟨⟨(bi cg), (cg, r1), rfl, ⟨rfl, htt, hcg⟩, hG.at ht⟩, hG.2.2.1.F ht⟩) hG.2.2.1.2.2 dX1_takeTimed_46
    · have hw : w < 32 := by
        rcases Nat.lt_or_ge w 32 with q | q
        · exact q
        · exact absurd (nI_le (a := 32) q (by omega)) c0
      refine lv_aload_n hx hb dX1_takeTimed_10 rfl (lv_at hl 1 rfl) ?_
      refine r_State_stamps hx hb hts (by decide +kernel) hown hK hG hLo hKo h2o (hts (.fieldLink RX1 18 "DotStores$State" "stamps" "[I") (by decide +kernel)) dX1_takeTimed_11 ?_
      refine lv_iload_n hx hb dX1_takeTimed_14 rfl (lv_at hl 3 rfl) ?_
      refine g_iald hx hb hK hG hLot hKot (w) rfl (by rw [hnot]; omega) (by rw [hnot]; decide) dX1_takeTimed_15 ?_
      refine lv_aload_n hx hb dX1_takeTimed_16 rfl (lv_at hl 0 rfl) ?_
      refine r_State_stamps hx hb hts (by decide +kernel) hown hK hG hLa hKa h2a (hts (.fieldLink RX1 18 "DotStores$State" "stamps" "[I") (by decide +kernel)) dX1_takeTimed_17 ?_
      refine lv_iload_n hx hb dX1_takeTimed_20 rfl (lv_at hl 3 rfl) ?_
      refine g_iald hx hb hK hG hLbt hKbt (w) rfl (by rw [hnbt]; omega) (by rw [hnbt]; decide) dX1_takeTimed_21 ?_
      refine lv_icmp_le (tgt := 39) hx hb dX1_takeTimed_22 (by decide) (fun c1 => ?_) (fun c1 => ?_)
      · refine lv_iinc (v := (nI (w + 1))) (lv' := [(3, .int (nI (w + 1))), (0, .ref a), (1, .ref o), (2, .int (bi cg))]) hx hb dX1_takeTimed_39 hl (k := 3) rfl (nI_1 w) (by decide) rfl (fun ls hl => ?_)
        refine lv_goto (tgt := 4) hx hb dX1_takeTimed_42 (by decide) ?_
        exact ih (w := w + 1) (cg := cg) (hl := (lv_sub hl [1, 2, 3, 0] rfl)) (hG := hG) (inv := ⟨by omega, tT_n htt c1, tT_cf htt hcg⟩) (hf := by omega)
      · refine lv_aload_n hx hb dX1_takeTimed_25 rfl (lv_at hl 0 rfl) ?_
        refine r_State_stamps hx hb hts (by decide +kernel) hown hK hG hLa hKa h2a (hts (.fieldLink RX1 18 "DotStores$State" "stamps" "[I") (by decide +kernel)) dX1_takeTimed_26 ?_
        refine lv_iload_n hx hb dX1_takeTimed_29 rfl (lv_at hl 3 rfl) ?_
        refine lv_aload_n hx hb dX1_takeTimed_30 rfl (lv_at hl 1 rfl) ?_
        refine r_State_stamps hx hb hts (by decide +kernel) hown hK hG hLo hKo h2o (hts (.fieldLink RX1 18 "DotStores$State" "stamps" "[I") (by decide +kernel)) dX1_takeTimed_31 ?_
        refine lv_iload_n hx hb dX1_takeTimed_34 rfl (lv_at hl 3 rfl) ?_
        refine g_iald hx hb hK hG hLot hKot (w) rfl (by rw [hnot]; omega) (by rw [hnot]; decide) dX1_takeTimed_35 ?_
        refine g_iast hx hb hK hG hLbt hKbt (w) rfl (by rw [hnbt]; omega) (by rw [hnbt]; decide) dX1_takeTimed_36 (fun H locs hG => ?_)
        refine lv_iconst (v := 1) hx hb dX1_takeTimed_37 (by decide) ?_
        refine lv_istore_n (lv' := [(2, .int 1), (0, .ref a), (1, .ref o), (3, .int (nI w))]) hx hb dX1_takeTimed_38 rfl hl (by decide) rfl (fun ls hl => ?_)
        refine lv_iinc (v := (nI (w + 1))) (lv' := [(3, .int (nI (w + 1))), (2, .int 1), (0, .ref a), (1, .ref o)]) hx hb dX1_takeTimed_39 hl (k := 3) rfl (nI_1 w) (by decide) rfl (fun ls hl => ?_)
        refine lv_goto (tgt := 4) hx hb dX1_takeTimed_42 (by decide) ?_
        exact ih (w := w + 1) (cg := true) (hl := (lv_sub hl [2, 3, 1, 0] rfl)) (hG := hG) (inv := ⟨by omega, tT_w htt c1, tT_ct htt c1⟩) (hf := by omega)
set_option maxHeartbeats 4000000 in
set_option maxRecDepth 100000 in
/-- State.take(o): the join, and whether this became another state -/
theorem c_take (l : Launch) (G : gG) (base : Nat) {L : List Nat} {K n : Nat → Nat} {rI : Nat → Nat → Int32} {rJ : Nat → Nat → Int64} {rQ : Nat → Nat → Option Nat} {fI : Nat → Nat → Int32} {fR : Nat → Nat → Option Nat} {a bs bl bt o os ol ot : Nat} (hS : isSt L K n fR a bs bl bt) (hO : isSt L K n fR o os ol ot) (hne : bl ≠ bs) : Met l yX1_take wsX1_take ({ frames := 1, cells := 0, slots := 0, locals := 29 }) (va_Pc [.ref a, .ref o] (g_Pr G base (L, K, n, rI, rJ, rQ, fI, fR))) (g_Qi G base (fun u : Bool × (Nat → Nat → Int32) × (Nat → Nat → Int64) × (Nat → Nat → Int32) => (L, K, n, u.2.1, u.2.2.1, rQ, u.2.2.2, fR)) (fun r u => r = bi u.1 ∧ tD bs bl os ol rJ u.2.2.1 4 ∧ tT bt ot rI u.2.1 32 ∧ u.2.2.2 = g_up (g_up fI a 3 (fI a 3 ||| fI o 3)) a 4 (fI a 4 ||| fI o 4) ∧ (u.1 = false ↔ (∀ j, j < 4 → u.2.2.1 bl j = rJ bl j ∧ u.2.2.1 bs j = rJ bs j) ∧ ((fI a 3 ||| fI o 3) = fI a 3 ∧ (fI a 4 ||| fI o 4) = fI a 4) ∧ ∀ j, j < 32 → u.2.1 bt j = rI bt j))) 0 0 (g_A base) := by
  have hS0 := hS
  have hO0 := hO
  obtain ⟨hLa, hKa, h0a, h1a, h2a, hLbs, hKbs, hnbs, hLbl, hKbl, hnbl, hLbt, hKbt, hnbt⟩ := hS0
  obtain ⟨hLo, hKo, h0o, h1o, h2o, hLos, hKos, hnos, hLol, hKol, hnol, hLot, hKot, hnot⟩ := hO0
  refine Met.ofW (cc := cX1_take) (maxL := 5) (ret := (some .boolean)) (by decide) rfl ?_
  intro p e s m args below meth c s₁ B hml hv
  obtain ⟨rfl, hPr⟩ := hv
  have hx := B.exec
  have hb := B.bytes
  have hr := B.returns
  have hts := atoms_spec (ws := wsX1_take) B.pre
  have hown : s.vm.findClass RX1 = some m.cls := findClass_of_methodNamed B.named
  have hlocks := B.notSynchronized
  have hin : meth.name = "take" := (name_of_methodNamed B.named B.method).1
  have hK := hPr.2.2
  have hG := hPr.gw
  have hl := lv_entry ([.ref a, .ref o]) (n := 5) (Nat.le_of_ble_eq_true rfl)
  rw [lg_entry_eq]
  generalize (lg_sl ([.ref a, .ref o]) ++ List.replicate (5 - (lg_sl ([.ref a, .ref o])).length) Slot.unset).toArray = ls at hl ⊢
  have hl : lv_has ls 5 [(0, .ref a), (1, .ref o)] := hl
  refine g_start hPr (fun H locs hG => ?_)
  refine lv_aload_n hx hb dX1_take_0 rfl (lv_at hl 0 rfl) ?_
  refine lv_aload_n hx hb dX1_take_1 rfl (lv_at hl 1 rfl) ?_
  refine g_calli (va_runV (As := [.ref o]) (rest := []) ⟨hx, hb, hml, hown, hts⟩ (c_takeDots l G base hS hO hne) (cwV 1 hts gX1_take_X1_takeDots rfl rfl rfl (by decide +kernel) ⟨(Nat.le_of_ble_eq_true rfl), (Nat.le_of_ble_eq_true rfl)⟩) (g_pv1 hK hG hLa hKa) rfl rfl hl.1 rfl (lv_room (Nat.le_of_ble_eq_true rfl)) dX1_take_2 ⟨(Nat.le_of_ble_eq_true rfl), (Nat.le_of_ble_eq_true rfl)⟩) hG (fun r u H locs hp hG => ?_)
  obtain ⟨cg1, r1⟩ := u
  obtain ⟨rfl, htd, hcg1⟩ := hp
  replace hG : gw G base s.heap (L, K, n, rI, r1, rQ, fI, fR) H locs := hG
  refine lv_istore_n (lv' := [(2, .int (bi cg1)), (0, .ref a), (1, .ref o)]) hx hb dX1_take_5 rfl hl (by decide) rfl (fun ls hl => ?_)
  refine lv_aload_n hx hb dX1_take_6 rfl (lv_at hl 1 rfl) ?_
  refine lv_aload_n hx hb dX1_take_7 rfl (lv_at hl 2 rfl) ?_
  refine g_calli (va_runV (As := [.ref o]) (rest := []) ⟨hx, hb, hml, hown, hts⟩ (c_takeTwice l G base hS hO) (cwV 1 hts gX1_take_X1_takeTwice rfl rfl rfl (by decide +kernel) ⟨(Nat.le_of_ble_eq_true rfl), (Nat.le_of_ble_eq_true rfl)⟩) (g_pv1 hK hG hLa hKa) rfl rfl hl.1 rfl (lv_room (Nat.le_of_ble_eq_true rfl)) dX1_take_8 ⟨(Nat.le_of_ble_eq_true rfl), (Nat.le_of_ble_eq_true rfl)⟩) hG (fun r u H locs hp hG => ?_)
  obtain ⟨cg2, f2⟩ := u
  obtain ⟨rfl, hf2, hcg2⟩ := hp
  replace hG : gw G base s.heap (L, K, n, rI, r1, rQ, f2, fR) H locs := hG
  refine lv_istore_n (lv' := [(3, .int (bi cg2)), (2, .int (bi cg1)), (0, .ref a), (1, .ref o)]) hx hb dX1_take_11 rfl hl (by decide) rfl (fun ls hl => ?_)
  refine lv_aload_n hx hb dX1_take_12 rfl (lv_at hl 2 rfl) ?_
  refine lv_aload_n hx hb dX1_take_13 rfl (lv_at hl 3 rfl) ?_
  refine g_calli (va_runV (As := [.ref o]) (rest := []) ⟨hx, hb, hml, hown, hts⟩ (c_takeTimed l G base hS hO) (cwV 1 hts gX1_take_X1_takeTimed rfl rfl rfl (by decide +kernel) ⟨(Nat.le_of_ble_eq_true rfl), (Nat.le_of_ble_eq_true rfl)⟩) (g_pv1 hK hG hLa hKa) rfl rfl hl.1 rfl (lv_room (Nat.le_of_ble_eq_true rfl)) dX1_take_14 ⟨(Nat.le_of_ble_eq_true rfl), (Nat.le_of_ble_eq_true rfl)⟩) hG (fun r u H locs hp hG => ?_)
  obtain ⟨cg3, r3⟩ := u
  obtain ⟨rfl, htt, hcg3⟩ := hp
  replace hG : gw G base s.heap (L, K, n, r3, r1, rQ, f2, fR) H locs := hG
  refine lv_istore (lv' := [(4, .int (bi cg3)), (3, .int (bi cg2)), (2, .int (bi cg1)), (0, .ref a), (1, .ref o)]) hx hb dX1_take_17 hl (by decide) rfl (fun ls hl => ?_)
  refine lv_iload_n hx hb dX1_take_19 rfl (lv_at hl 2 rfl) ?_
  refine lv_if_ne (tgt := 32) hx hb dX1_take_20 (by decide) (fun c1 => ?_) (fun c1 => ?_)
  · have hc : ((∀ j, j < 4 → r1 bl j = rJ bl j ∧ r1 bs j = rJ bs j) ∧ ((fI a 3 ||| fI o 3) = fI a 3 ∧ (fI a 4 ||| fI o 4) = fI a 4) ∧ ∀ j, j < 32 → r3 bt j = rI bt j) → true = false := fun z => absurd (bi_0.mpr (hcg1.mpr z.1)) c1
    refine lv_iconst (v := 1) hx hb dX1_take_32 (by decide) ?_
    refine lv_goto (tgt := 37) hx hb dX1_take_33 (by decide) ?_
    refine W.widen (k := 0) (n := 0) (by omega) (by omega) ?_
    exact W.zret (v := 1) hx hb hr rfl (fun t ht hW => ⟨⟨1, (true, r3, r1, f2), rfl, ⟨rfl, htd, htt, hf2, ⟨fun q => (nomatch q), fun q => hc q⟩⟩, hG.at ht⟩, hG.2.2.1.F ht⟩) hG.2.2.1.2.2 dX1_take_37
  · have c1 := hcg1.mp (bi_0.mp c1)
    refine lv_iload_n hx hb dX1_take_23 rfl (lv_at hl 1 rfl) ?_
    refine lv_if_ne (tgt := 32) hx hb dX1_take_24 (by decide) (fun c2 => ?_) (fun c2 => ?_)
    · have hc : ((∀ j, j < 4 → r1 bl j = rJ bl j ∧ r1 bs j = rJ bs j) ∧ ((fI a 3 ||| fI o 3) = fI a 3 ∧ (fI a 4 ||| fI o 4) = fI a 4) ∧ ∀ j, j < 32 → r3 bt j = rI bt j) → true = false := fun z => absurd (bi_0.mpr (hcg2.mpr z.2.1)) c2
      refine lv_iconst (v := 1) hx hb dX1_take_32 (by decide) ?_
      refine lv_goto (tgt := 37) hx hb dX1_take_33 (by decide) ?_
      refine W.widen (k := 0) (n := 0) (by omega) (by omega) ?_
      exact W.zret (v := 1) hx hb hr rfl (fun t ht hW => ⟨⟨1, (true, r3, r1, f2), rfl, ⟨rfl, htd, htt, hf2, ⟨fun q => (nomatch q), fun q => hc q⟩⟩, hG.at ht⟩, hG.2.2.1.F ht⟩) hG.2.2.1.2.2 dX1_take_37
    · have c2 := hcg2.mp (bi_0.mp c2)
      refine lv_iload hx hb dX1_take_27 (lv_at hl 0 rfl) ?_
      refine lv_if_eq (tgt := 36) hx hb dX1_take_29 (by decide) (fun c3 => ?_) (fun c3 => ?_)
      · have hc : ((∀ j, j < 4 → r1 bl j = rJ bl j ∧ r1 bs j = rJ bs j) ∧ ((fI a 3 ||| fI o 3) = fI a 3 ∧ (fI a 4 ||| fI o 4) = fI a 4) ∧ ∀ j, j < 32 → r3 bt j = rI bt j) := ⟨c1, c2, hcg3.mp (bi_0.mp c3)⟩
        refine lv_iconst (v := 0) hx hb dX1_take_36 (by decide) ?_
        refine W.widen (k := 0) (n := 0) (by omega) (by omega) ?_
        exact W.zret (v := 0) hx hb hr rfl (fun t ht hW => ⟨⟨0, (false, r3, r1, f2), rfl, ⟨rfl, htd, htt, hf2, ⟨fun _ => hc, fun _ => rfl⟩⟩, hG.at ht⟩, hG.2.2.1.F ht⟩) hG.2.2.1.2.2 dX1_take_37
      · have hc : ((∀ j, j < 4 → r1 bl j = rJ bl j ∧ r1 bs j = rJ bs j) ∧ ((fI a 3 ||| fI o 3) = fI a 3 ∧ (fI a 4 ||| fI o 4) = fI a 4) ∧ ∀ j, j < 32 → r3 bt j = rI bt j) → true = false := fun z => absurd (bi_0.mpr (hcg3.mpr z.2.2)) c3
        refine lv_iconst (v := 1) hx hb dX1_take_32 (by decide) ?_
        refine lv_goto (tgt := 37) hx hb dX1_take_33 (by decide) ?_
        refine W.widen (k := 0) (n := 0) (by omega) (by omega) ?_
        exact W.zret (v := 1) hx hb hr rfl (fun t ht hW => ⟨⟨1, (true, r3, r1, f2), rfl, ⟨rfl, htd, htt, hf2, ⟨fun q => (nomatch q), fun q => hc q⟩⟩, hG.at ht⟩, hG.2.2.1.F ht⟩) hG.2.2.1.2.2 dX1_take_37
set_option maxHeartbeats 4000000 in
set_option maxRecDepth 100000 in
/-- State.become(o): a copy -/
theorem c_become (l : Launch) (G : gG) (base : Nat) {L : List Nat} {K n : Nat → Nat} {rI : Nat → Nat → Int32} {rJ : Nat → Nat → Int64} {rQ : Nat → Nat → Option Nat} {fI : Nat → Nat → Int32} {fR : Nat → Nat → Option Nat} {a bs bl bt o os ol ot : Nat} (hS : isSt L K n fR a bs bl bt) (hO : isSt L K n fR o os ol ot) : Met l yX1_become wsX1_become ({ frames := 1, cells := 0, slots := 0, locals := 40 }) (va_Pc [.ref a, .ref o] (g_Pr G base (L, K, n, rI, rJ, rQ, fI, fR))) (g_Qv G base (fun _ : Unit => (L, K, n, g_cp rI ot bt 32, g_cp (g_cp rJ os bs 4) ol bl 4, rQ, g_up (g_up fI a 3 (fI o 3)) a 4 (g_up fI a 3 (fI o 3) o 4), fR)) (fun _ => True)) 0 0 (g_A base) := by
  have hS0 := hS
  have hO0 := hO
  obtain ⟨hLa, hKa, h0a, h1a, h2a, hLbs, hKbs, hnbs, hLbl, hKbl, hnbl, hLbt, hKbt, hnbt⟩ := hS0
  obtain ⟨hLo, hKo, h0o, h1o, h2o, hLos, hKos, hnos, hLol, hKol, hnol, hLot, hKot, hnot⟩ := hO0
  refine Met.ofW (cc := cX1_become) (maxL := 2) (ret := none) (by decide) rfl ?_
  intro p e s m args below meth c s₁ B hml hv
  obtain ⟨rfl, hPr⟩ := hv
  have hx := B.exec
  have hb := B.bytes
  have hr := B.returns
  have hts := atoms_spec (ws := wsX1_become) B.pre
  have hown : s.vm.findClass RX1 = some m.cls := findClass_of_methodNamed B.named
  have hlocks := B.notSynchronized
  have hin : meth.name = "become" := (name_of_methodNamed B.named B.method).1
  have hK := hPr.2.2
  have hG := hPr.gw
  have hl := lv_entry ([.ref a, .ref o]) (n := 2) (Nat.le_of_ble_eq_true rfl)
  rw [lg_entry_eq]
  generalize (lg_sl ([.ref a, .ref o]) ++ List.replicate (2 - (lg_sl ([.ref a, .ref o])).length) Slot.unset).toArray = ls at hl ⊢
  have hl : lv_has ls 2 [(0, .ref a), (1, .ref o)] := hl
  refine g_start hPr (fun H locs hG => ?_)
  refine lv_aload_n hx hb dX1_become_0 rfl (lv_at hl 1 rfl) ?_
  refine r_State_seen hx hb hts (by decide +kernel) hown hK hG hLo hKo h0o (hts (.fieldLink RX1 9 "DotStores$State" "seen" "[J") (by decide +kernel)) dX1_become_1 ?_
  refine lv_iconst (v := 0) hx hb dX1_become_4 (by decide) ?_
  refine lv_aload_n hx hb dX1_become_5 rfl (lv_at hl 0 rfl) ?_
  refine r_State_seen hx hb hts (by decide +kernel) hown hK hG hLa hKa h0a (hts (.fieldLink RX1 9 "DotStores$State" "seen" "[J") (by decide +kernel)) dX1_become_6 ?_
  refine lv_iconst (v := 0) hx hb dX1_become_9 (by decide) ?_
  refine lv_iconst (v := 4) hx hb dX1_become_10 (by decide) ?_
  refine g_copyl hx hb (by rw [hml]; exact hl.1.symm) hown (hts (.methodLink RX1 45 arraycopyName) (by decide +kernel)) (hts (.native arraycopyName) (by decide +kernel)) (hts (.static arraycopyName) (by decide +kernel)) (hts (.initialized "java/lang/System") (by decide +kernel)) hK hG hLos hKos hLbs hKbs hnos hnbs rfl (by decide) (Nat.le_of_ble_eq_true rfl) (Nat.le_of_ble_eq_true rfl) dX1_become_11 (fun H locs hG => ?_)
  refine lv_aload_n hx hb dX1_become_14 rfl (lv_at hl 1 rfl) ?_
  refine r_State_live hx hb hts (by decide +kernel) hown hK hG hLo hKo h1o (hts (.fieldLink RX1 15 "DotStores$State" "live" "[J") (by decide +kernel)) dX1_become_15 ?_
  refine lv_iconst (v := 0) hx hb dX1_become_18 (by decide) ?_
  refine lv_aload_n hx hb dX1_become_19 rfl (lv_at hl 0 rfl) ?_
  refine r_State_live hx hb hts (by decide +kernel) hown hK hG hLa hKa h1a (hts (.fieldLink RX1 15 "DotStores$State" "live" "[J") (by decide +kernel)) dX1_become_20 ?_
  refine lv_iconst (v := 0) hx hb dX1_become_23 (by decide) ?_
  refine lv_iconst (v := 4) hx hb dX1_become_24 (by decide) ?_
  refine g_copyl hx hb (by rw [hml]; exact hl.1.symm) hown (hts (.methodLink RX1 45 arraycopyName) (by decide +kernel)) (hts (.native arraycopyName) (by decide +kernel)) (hts (.static arraycopyName) (by decide +kernel)) (hts (.initialized "java/lang/System") (by decide +kernel)) hK hG hLol hKol hLbl hKbl hnol hnbl rfl (by decide) (Nat.le_of_ble_eq_true rfl) (Nat.le_of_ble_eq_true rfl) dX1_become_25 (fun H locs hG => ?_)
  refine lv_aload_n hx hb dX1_become_28 rfl (lv_at hl 1 rfl) ?_
  refine r_State_stamps hx hb hts (by decide +kernel) hown hK hG hLo hKo h2o (hts (.fieldLink RX1 18 "DotStores$State" "stamps" "[I") (by decide +kernel)) dX1_become_29 ?_
  refine lv_iconst (v := 0) hx hb dX1_become_32 (by decide) ?_
  refine lv_aload_n hx hb dX1_become_33 rfl (lv_at hl 0 rfl) ?_
  refine r_State_stamps hx hb hts (by decide +kernel) hown hK hG hLa hKa h2a (hts (.fieldLink RX1 18 "DotStores$State" "stamps" "[I") (by decide +kernel)) dX1_become_34 ?_
  refine lv_iconst (v := 0) hx hb dX1_become_37 (by decide) ?_
  refine lv_bipush (v := 32) hx hb dX1_become_38 (by decide) ?_
  refine g_copyi hx hb (by rw [hml]; exact hl.1.symm) hown (hts (.methodLink RX1 45 arraycopyName) (by decide +kernel)) (hts (.native arraycopyName) (by decide +kernel)) (hts (.static arraycopyName) (by decide +kernel)) (hts (.initialized "java/lang/System") (by decide +kernel)) hK hG hLot hKot hLbt hKbt hnot hnbt rfl (by decide) (Nat.le_of_ble_eq_true rfl) (Nat.le_of_ble_eq_true rfl) dX1_become_40 (fun H locs hG => ?_)
  refine lv_aload_n hx hb dX1_become_43 rfl (lv_at hl 0 rfl) ?_
  refine lv_aload_n hx hb dX1_become_44 rfl (lv_at hl 1 rfl) ?_
  refine r_State_put hx hb hts (by decide +kernel) hown hK hG hLo hKo (hts (.fieldLink RX1 22 "DotStores$State" "put" "I") (by decide +kernel)) dX1_become_45 ?_
  refine w_State_put hx hb hts (by decide +kernel) hown hK hG hLa hKa (hts (.fieldLink RX1 22 "DotStores$State" "put" "I") (by decide +kernel)) dX1_become_48 (fun H locs hG => ?_)
  refine lv_aload_n hx hb dX1_become_51 rfl (lv_at hl 0 rfl) ?_
  refine lv_aload_n hx hb dX1_become_52 rfl (lv_at hl 1 rfl) ?_
  refine r_State_taken hx hb hts (by decide +kernel) hown hK hG hLo hKo (hts (.fieldLink RX1 26 "DotStores$State" "taken" "I") (by decide +kernel)) dX1_become_53 ?_
  refine w_State_taken hx hb hts (by decide +kernel) hown hK hG hLa hKa (hts (.fieldLink RX1 26 "DotStores$State" "taken" "I") (by decide +kernel)) dX1_become_56 (fun H locs hG => ?_)
  refine W.widen (k := 0) (n := 0) (by omega) (by omega) ?_
  exact W.vret hx hb hr (fun t ht hW => ⟨⟨(), rfl, trivial, hG.at ht⟩, hG.2.2.1.F ht⟩) hG.2.2.1.2.2 dX1_become_59
set_option maxHeartbeats 4000000 in
set_option maxRecDepth 100000 in
/-- State.isLike(o) -/
theorem c_isLike (l : Launch) (G : gG) (base : Nat) {L : List Nat} {K n : Nat → Nat} {rI : Nat → Nat → Int32} {rJ : Nat → Nat → Int64} {rQ : Nat → Nat → Option Nat} {fI : Nat → Nat → Int32} {fR : Nat → Nat → Option Nat} {a bs bl bt o os ol ot : Nat} (hS : isSt L K n fR a bs bl bt) (hO : isSt L K n fR o os ol ot) : Met l yX1_isLike wsX1_isLike ({ frames := 0, cells := 0, slots := 0, locals := 0 }) (va_Pc [.ref a, .ref o] (g_Pr G base (L, K, n, rI, rJ, rQ, fI, fR))) (g_Qi G base (fun _ : Bool => (L, K, n, rI, rJ, rQ, fI, fR)) (fun r u => r = bi u ∧ (u = true ↔ (fI a 3 = fI o 3 ∧ fI a 4 = fI o 4) ∧ (∀ j, j < 4 → rJ bs j = rJ os j ∧ rJ bl j = rJ ol j) ∧ ∀ j, j < 32 → rI bt j = rI ot j))) 0 0 (g_A base) := by
  have hS0 := hS
  have hO0 := hO
  obtain ⟨hLa, hKa, h0a, h1a, h2a, hLbs, hKbs, hnbs, hLbl, hKbl, hnbl, hLbt, hKbt, hnbt⟩ := hS0
  obtain ⟨hLo, hKo, h0o, h1o, h2o, hLos, hKos, hnos, hLol, hKol, hnol, hLot, hKot, hnot⟩ := hO0
  refine Met.ofW (cc := cX1_isLike) (maxL := 4) (ret := (some .boolean)) (by decide) rfl ?_
  intro p e s m args below meth c s₁ B hml hv
  obtain ⟨rfl, hPr⟩ := hv
  have hx := B.exec
  have hb := B.bytes
  have hr := B.returns
  have hts := atoms_spec (ws := wsX1_isLike) B.pre
  have hown : s.vm.findClass RX1 = some m.cls := findClass_of_methodNamed B.named
  have hlocks := B.notSynchronized
  have hin : meth.name = "isLike" := (name_of_methodNamed B.named B.method).1
  have hK := hPr.2.2
  have hG := hPr.gw
  have hl := lv_entry ([.ref a, .ref o]) (n := 4) (Nat.le_of_ble_eq_true rfl)
  rw [lg_entry_eq]
  generalize (lg_sl ([.ref a, .ref o]) ++ List.replicate (4 - (lg_sl ([.ref a, .ref o])).length) Slot.unset).toArray = ls at hl ⊢
  have hl : lv_has ls 4 [(0, .ref a), (1, .ref o)] := hl
  refine g_start hPr (fun H locs hG => ?_)
  refine lv_aload_n hx hb dX1_isLike_0 rfl (lv_at hl 0 rfl) ?_
  refine r_State_put hx hb hts (by decide +kernel) hown hK hG hLa hKa (hts (.fieldLink RX1 22 "DotStores$State" "put" "I") (by decide +kernel)) dX1_isLike_1 ?_
  refine lv_aload_n hx hb dX1_isLike_4 rfl (lv_at hl 1 rfl) ?_
  refine r_State_put hx hb hts (by decide +kernel) hown hK hG hLo hKo (hts (.fieldLink RX1 22 "DotStores$State" "put" "I") (by decide +kernel)) dX1_isLike_5 ?_
  refine lv_icmp_ne (tgt := 26) hx hb dX1_isLike_8 (by decide) (fun c1 => ?_) (fun c1 => ?_)
  · have hc : ¬ (fI a 3 = fI o 3 ∧ fI a 4 = fI o 4) := fun z => c1 z.1
    refine lv_iconst (v := 0) hx hb dX1_isLike_26 (by decide) ?_
    refine lv_istore_n (lv' := [(2, .int 0), (0, .ref a), (1, .ref o)]) hx hb dX1_isLike_27 rfl hl (by decide) rfl (fun ls hl => ?_)
    refine lv_iconst (v := 0) hx hb dX1_isLike_28 (by decide) ?_
    refine lv_istore_n (lv' := [(3, .int 0), (2, .int 0), (0, .ref a), (1, .ref o)]) hx hb dX1_isLike_29 rfl hl (by decide) rfl (fun ls hl => ?_)
    obtain ⟨w, ew⟩ : ∃ z : Nat, z = 0 := ⟨_, rfl⟩
    obtain ⟨lk, elk⟩ : ∃ z : Bool, z = false := ⟨_, rfl⟩
    replace hl : lv_has ls 4 [(0, .ref a), (1, .ref o), (2, .int (bi lk)), (3, .int (nI w))] := by subst ew elk; exact (lv_sub hl [2, 3, 1, 0] rfl)
    have inv : w ≤ 4 ∧ (lk = true ↔ (fI a 3 = fI o 3 ∧ fI a 4 = fI o 4) ∧ ∀ j, j < w → rJ bs j = rJ os j ∧ rJ bl j = rJ ol j) := by
      subst ew elk
      exact ⟨by omega, fun q => (nomatch q), fun q => absurd q.1 hc⟩
    have hf : 4 < w + 5 := by omega
    clear ew elk
    generalize 5 = d at hf
    induction d generalizing w lk H locs ls with
    | zero => exact absurd hf (by have := inv.1; omega)
    | succ d ih =>
      obtain ⟨hw, hlk⟩ := inv
      refine lv_iload_n hx hb dX1_isLike_30 rfl (lv_at hl 3 rfl) ?_
      refine lv_iconst (v := 4) hx hb dX1_isLike_31 (by decide) ?_
      refine lv_icmp_ge (tgt := 83) hx hb dX1_isLike_32 (by decide) (fun c0 => ?_) (fun c0 => ?_)
      · have hw : w = 4 := by
          rcases Nat.lt_or_ge w 4 with q | q
          · exact absurd c0 (nI_ge q (by decide))
          · omega
        subst hw
        refine lv_iconst (v := 0) hx hb dX1_isLike_83 (by decide) ?_
        refine lv_istore_n (lv' := [(3, .int 0), (0, .ref a), (1, .ref o), (2, .int (bi lk))]) hx hb dX1_isLike_84 rfl hl (by decide) rfl (fun ls hl => ?_)
        clear ih hf
        obtain ⟨w, ew⟩ : ∃ z : Nat, z = 0 := ⟨_, rfl⟩
        obtain ⟨l2, el2⟩ : ∃ z : Bool, z = lk := ⟨_, rfl⟩
        replace hl : lv_has ls 4 [(0, .ref a), (1, .ref o), (2, .int (bi l2)), (3, .int (nI w))] := by subst ew el2; exact (lv_sub hl [1, 2, 3, 0] rfl)
        have inv : w ≤ 32 ∧ (l2 = true ↔ lk = true ∧ ∀ j, j < w → rI bt j = rI ot j) := by
          subst ew el2
          exact ⟨by omega, fun q => ⟨q, fun j h => absurd h (Nat.not_lt_zero j)⟩, fun q => q.1⟩
        have hf : 32 < w + 33 := by omega
        clear ew el2
        generalize 33 = d at hf
        induction d generalizing w l2 H locs ls with
        | zero => exact absurd hf (by have := inv.1; omega)
        | succ d ih =>
          obtain ⟨hw2, hl2⟩ := inv
          refine lv_iload_n hx hb dX1_isLike_85 rfl (lv_at hl 3 rfl) ?_
          refine lv_bipush (v := 32) hx hb dX1_isLike_86 (by decide) ?_
          refine lv_icmp_ge (tgt := 122) hx hb dX1_isLike_88 (by decide) (fun c0 => ?_) (fun c0 => ?_)
          · have hw : w = 32 := by
              rcases Nat.lt_or_ge w 32 with q | q
              · exact absurd c0 (nI_ge q (by decide))
              · omega
            subst hw
            refine lv_iload_n hx hb dX1_isLike_122 rfl (lv_at hl 2 rfl) ?_
            refine W.widen (k := 0) (n := 0) (by omega) (by omega) ?_
            exact W.zret (v := (bi l2)) hx hb hr (bi_nar l2) (fun t ht hW => ⟨⟨(bi l2), l2, rfl, ⟨rfl, by rw [hl2, hlk]; exact ⟨fun q => ⟨q.1.1, q.1.2, q.2⟩, fun q => ⟨⟨q.1, q.2.1⟩, q.2.2⟩⟩⟩, hG.at ht⟩, hG.2.2.1.F ht⟩) hG.2.2.1.2.2 dX1_isLike_123
          · have hw : w < 32 := by
              rcases Nat.lt_or_ge w 32 with q | q
              · exact q
              · exact absurd (nI_le (a := 32) q (by omega)) c0
            refine lv_iload_n hx hb dX1_isLike_91 rfl (lv_at hl 2 rfl) ?_
            refine lv_if_eq (tgt := 114) hx hb dX1_isLike_92 (by decide) (fun c1 => ?_) (fun c1 => ?_)
            · have hd : ¬ (l2 = true ∧ rI bt w = rI ot w) := fun z => absurd (bi_0.mp c1) (by rw [z.1]; decide)
              refine lv_iconst (v := 0) hx hb dX1_isLike_114 (by decide) ?_
              refine lv_istore_n (lv' := [(2, .int 0), (0, .ref a), (1, .ref o), (3, .int (nI w))]) hx hb dX1_isLike_115 rfl hl (by decide) rfl (fun ls hl => ?_)
              refine lv_iinc (v := (nI (w + 1))) (lv' := [(3, .int (nI (w + 1))), (2, .int 0), (0, .ref a), (1, .ref o)]) hx hb dX1_isLike_116 hl (k := 3) rfl (nI_1 w) (by decide) rfl (fun ls hl => ?_)
              refine lv_goto (tgt := 85) hx hb dX1_isLike_119 (by decide) ?_
              exact ih (w := w + 1) (l2 := false) (hl := (lv_sub hl [2, 3, 1, 0] rfl)) (hG := hG) (inv := ⟨by omega, il_f2 hl2 hd⟩) (hf := by omega)
            · have c1 := ts_nf (fun z => c1 (bi_0.mpr z))
              refine lv_aload_n hx hb dX1_isLike_95 rfl (lv_at hl 0 rfl) ?_
              refine r_State_stamps hx hb hts (by decide +kernel) hown hK hG hLa hKa h2a (hts (.fieldLink RX1 18 "DotStores$State" "stamps" "[I") (by decide +kernel)) dX1_isLike_96 ?_
              refine lv_iload_n hx hb dX1_isLike_99 rfl (lv_at hl 3 rfl) ?_
              refine g_iald hx hb hK hG hLbt hKbt (w) rfl (by rw [hnbt]; omega) (by rw [hnbt]; decide) dX1_isLike_100 ?_
              refine lv_aload_n hx hb dX1_isLike_101 rfl (lv_at hl 1 rfl) ?_
              refine r_State_stamps hx hb hts (by decide +kernel) hown hK hG hLo hKo h2o (hts (.fieldLink RX1 18 "DotStores$State" "stamps" "[I") (by decide +kernel)) dX1_isLike_102 ?_
              refine lv_iload_n hx hb dX1_isLike_105 rfl (lv_at hl 3 rfl) ?_
              refine g_iald hx hb hK hG hLot hKot (w) rfl (by rw [hnot]; omega) (by rw [hnot]; decide) dX1_isLike_106 ?_
              refine lv_icmp_ne (tgt := 114) hx hb dX1_isLike_107 (by decide) (fun c2 => ?_) (fun c2 => ?_)
              · have hd : ¬ (l2 = true ∧ rI bt w = rI ot w) := fun z => c2 z.2
                refine lv_iconst (v := 0) hx hb dX1_isLike_114 (by decide) ?_
                refine lv_istore_n (lv' := [(2, .int 0), (0, .ref a), (1, .ref o), (3, .int (nI w))]) hx hb dX1_isLike_115 rfl hl (by decide) rfl (fun ls hl => ?_)
                refine lv_iinc (v := (nI (w + 1))) (lv' := [(3, .int (nI (w + 1))), (2, .int 0), (0, .ref a), (1, .ref o)]) hx hb dX1_isLike_116 hl (k := 3) rfl (nI_1 w) (by decide) rfl (fun ls hl => ?_)
                refine lv_goto (tgt := 85) hx hb dX1_isLike_119 (by decide) ?_
                exact ih (w := w + 1) (l2 := false) (hl := (lv_sub hl [2, 3, 1, 0] rfl)) (hG := hG) (inv := ⟨by omega, il_f2 hl2 hd⟩) (hf := by omega)
              · refine lv_iconst (v := 1) hx hb dX1_isLike_110 (by decide) ?_
                refine lv_goto (tgt := 115) hx hb dX1_isLike_111 (by decide) ?_
                refine lv_istore_n (lv' := [(2, .int 1), (0, .ref a), (1, .ref o), (3, .int (nI w))]) hx hb dX1_isLike_115 rfl hl (by decide) rfl (fun ls hl => ?_)
                refine lv_iinc (v := (nI (w + 1))) (lv' := [(3, .int (nI (w + 1))), (2, .int 1), (0, .ref a), (1, .ref o)]) hx hb dX1_isLike_116 hl (k := 3) rfl (nI_1 w) (by decide) rfl (fun ls hl => ?_)
                refine lv_goto (tgt := 85) hx hb dX1_isLike_119 (by decide) ?_
                exact ih (w := w + 1) (l2 := true) (hl := (lv_sub hl [2, 3, 1, 0] rfl)) (hG := hG) (inv := ⟨by omega, il_t2 hl2 c1 c2⟩) (hf := by omega)
      · have hw : w < 4 := by
          rcases Nat.lt_or_ge w 4 with q | q
          · exact q
          · exact absurd (nI_le (a := 4) q (by omega)) c0
        refine lv_iload_n hx hb dX1_isLike_35 rfl (lv_at hl 2 rfl) ?_
        refine lv_if_eq (tgt := 75) hx hb dX1_isLike_36 (by decide) (fun c1 => ?_) (fun c1 => ?_)
        · have hd : ¬ (lk = true ∧ rJ bs w = rJ os w ∧ rJ bl w = rJ ol w) := fun z => absurd (bi_0.mp c1) (by rw [z.1]; decide)
          refine lv_iconst (v := 0) hx hb dX1_isLike_75 (by decide) ?_
          refine lv_istore_n (lv' := [(2, .int 0), (0, .ref a), (1, .ref o), (3, .int (nI w))]) hx hb dX1_isLike_76 rfl hl (by decide) rfl (fun ls hl => ?_)
          refine lv_iinc (v := (nI (w + 1))) (lv' := [(3, .int (nI (w + 1))), (2, .int 0), (0, .ref a), (1, .ref o)]) hx hb dX1_isLike_77 hl (k := 3) rfl (nI_1 w) (by decide) rfl (fun ls hl => ?_)
          refine lv_goto (tgt := 30) hx hb dX1_isLike_80 (by decide) ?_
          exact ih (w := w + 1) (lk := false) (hl := (lv_sub hl [2, 3, 1, 0] rfl)) (hG := hG) (inv := ⟨by omega, il_f hlk hd⟩) (hf := by omega)
        · have c1 := ts_nf (fun z => c1 (bi_0.mpr z))
          refine lv_aload_n hx hb dX1_isLike_39 rfl (lv_at hl 0 rfl) ?_
          refine r_State_seen hx hb hts (by decide +kernel) hown hK hG hLa hKa h0a (hts (.fieldLink RX1 9 "DotStores$State" "seen" "[J") (by decide +kernel)) dX1_isLike_40 ?_
          refine lv_iload_n hx hb dX1_isLike_43 rfl (lv_at hl 3 rfl) ?_
          refine g_lald hx hb hK hG hLbs hKbs (w) rfl (by rw [hnbs]; omega) (by rw [hnbs]; decide) dX1_isLike_44 ?_
          refine lv_aload_n hx hb dX1_isLike_45 rfl (lv_at hl 1 rfl) ?_
          refine r_State_seen hx hb hts (by decide +kernel) hown hK hG hLo hKo h0o (hts (.fieldLink RX1 9 "DotStores$State" "seen" "[J") (by decide +kernel)) dX1_isLike_46 ?_
          refine lv_iload_n hx hb dX1_isLike_49 rfl (lv_at hl 3 rfl) ?_
          refine g_lald hx hb hK hG hLos hKos (w) rfl (by rw [hnos]; omega) (by rw [hnos]; decide) dX1_isLike_50 ?_
          refine W.lcmp hx hb dX1_isLike_51 ?_
          refine lv_if_ne (tgt := 75) hx hb dX1_isLike_52 (by decide) (fun c2 => ?_) (fun c2 => ?_)
          · have hd : ¬ (lk = true ∧ rJ bs w = rJ os w ∧ rJ bl w = rJ ol w) := fun z => c2 ((lg_cmp_eq _ _).mpr z.2.1)
            refine lv_iconst (v := 0) hx hb dX1_isLike_75 (by decide) ?_
            refine lv_istore_n (lv' := [(2, .int 0), (0, .ref a), (1, .ref o), (3, .int (nI w))]) hx hb dX1_isLike_76 rfl hl (by decide) rfl (fun ls hl => ?_)
            refine lv_iinc (v := (nI (w + 1))) (lv' := [(3, .int (nI (w + 1))), (2, .int 0), (0, .ref a), (1, .ref o)]) hx hb dX1_isLike_77 hl (k := 3) rfl (nI_1 w) (by decide) rfl (fun ls hl => ?_)
            refine lv_goto (tgt := 30) hx hb dX1_isLike_80 (by decide) ?_
            exact ih (w := w + 1) (lk := false) (hl := (lv_sub hl [2, 3, 1, 0] rfl)) (hG := hG) (inv := ⟨by omega, il_f hlk hd⟩) (hf := by omega)
          · have c2 := (lg_cmp_eq _ _).mp c2
            refine lv_aload_n hx hb dX1_isLike_55 rfl (lv_at hl 0 rfl) ?_
            refine r_State_live hx hb hts (by decide +kernel) hown hK hG hLa hKa h1a (hts (.fieldLink RX1 15 "DotStores$State" "live" "[J") (by decide +kernel)) dX1_isLike_56 ?_
            refine lv_iload_n hx hb dX1_isLike_59 rfl (lv_at hl 3 rfl) ?_
            refine g_lald hx hb hK hG hLbl hKbl (w) rfl (by rw [hnbl]; omega) (by rw [hnbl]; decide) dX1_isLike_60 ?_
            refine lv_aload_n hx hb dX1_isLike_61 rfl (lv_at hl 1 rfl) ?_
            refine r_State_live hx hb hts (by decide +kernel) hown hK hG hLo hKo h1o (hts (.fieldLink RX1 15 "DotStores$State" "live" "[J") (by decide +kernel)) dX1_isLike_62 ?_
            refine lv_iload_n hx hb dX1_isLike_65 rfl (lv_at hl 3 rfl) ?_
            refine g_lald hx hb hK hG hLol hKol (w) rfl (by rw [hnol]; omega) (by rw [hnol]; decide) dX1_isLike_66 ?_
            refine W.lcmp hx hb dX1_isLike_67 ?_
            refine lv_if_ne (tgt := 75) hx hb dX1_isLike_68 (by decide) (fun c3 => ?_) (fun c3 => ?_)
            · have hd : ¬ (lk = true ∧ rJ bs w = rJ os w ∧ rJ bl w = rJ ol w) := fun z => c3 ((lg_cmp_eq _ _).mpr z.2.2)
              refine lv_iconst (v := 0) hx hb dX1_isLike_75 (by decide) ?_
              refine lv_istore_n (lv' := [(2, .int 0), (0, .ref a), (1, .ref o), (3, .int (nI w))]) hx hb dX1_isLike_76 rfl hl (by decide) rfl (fun ls hl => ?_)
              refine lv_iinc (v := (nI (w + 1))) (lv' := [(3, .int (nI (w + 1))), (2, .int 0), (0, .ref a), (1, .ref o)]) hx hb dX1_isLike_77 hl (k := 3) rfl (nI_1 w) (by decide) rfl (fun ls hl => ?_)
              refine lv_goto (tgt := 30) hx hb dX1_isLike_80 (by decide) ?_
              exact ih (w := w + 1) (lk := false) (hl := (lv_sub hl [2, 3, 1, 0] rfl)) (hG := hG) (inv := ⟨by omega, il_f hlk hd⟩) (hf := by omega)
            · have c3 := (lg_cmp_eq _ _).mp c3
              refine lv_iconst (v := 1) hx hb dX1_isLike_71 (by decide) ?_
              refine lv_goto (tgt := 76) hx hb dX1_isLike_72 (by decide) ?_
              refine lv_istore_n (lv' := [(2, .int 1), (0, .ref a), (1, .ref o), (3, .int (nI w))]) hx hb dX1_isLike_76 rfl hl (by decide) rfl (fun ls hl => ?_)
              refine lv_iinc (v := (nI (w + 1))) (lv' := [(3, .int (nI (w + 1))), (2, .int 1), (0, .ref a), (1, .ref o)]) hx hb dX1_isLike_77 hl (k := 3) rfl (nI_1 w) (by decide) rfl (fun ls hl => ?_)
              refine lv_goto (tgt := 30) hx hb dX1_isLike_80 (by decide) ?_
              exact ih (w := w + 1) (lk := true) (hl := (lv_sub hl [2, 3, 1, 0] rfl)) (hG := hG) (inv := ⟨by omega, il_t hlk c1 c2 c3⟩) (hf := by omega)
  · refine lv_aload_n hx hb dX1_isLike_11 rfl (lv_at hl 0 rfl) ?_
    refine r_State_taken hx hb hts (by decide +kernel) hown hK hG hLa hKa (hts (.fieldLink RX1 26 "DotStores$State" "taken" "I") (by decide +kernel)) dX1_isLike_12 ?_
    refine lv_aload_n hx hb dX1_isLike_15 rfl (lv_at hl 1 rfl) ?_
    refine r_State_taken hx hb hts (by decide +kernel) hown hK hG hLo hKo (hts (.fieldLink RX1 26 "DotStores$State" "taken" "I") (by decide +kernel)) dX1_isLike_16 ?_
    refine lv_icmp_ne (tgt := 26) hx hb dX1_isLike_19 (by decide) (fun c2 => ?_) (fun c2 => ?_)
    · have hc : ¬ (fI a 3 = fI o 3 ∧ fI a 4 = fI o 4) := fun z => c2 z.2
      refine lv_iconst (v := 0) hx hb dX1_isLike_26 (by decide) ?_
      refine lv_istore_n (lv' := [(2, .int 0), (0, .ref a), (1, .ref o)]) hx hb dX1_isLike_27 rfl hl (by decide) rfl (fun ls hl => ?_)
      refine lv_iconst (v := 0) hx hb dX1_isLike_28 (by decide) ?_
      refine lv_istore_n (lv' := [(3, .int 0), (2, .int 0), (0, .ref a), (1, .ref o)]) hx hb dX1_isLike_29 rfl hl (by decide) rfl (fun ls hl => ?_)
      obtain ⟨w, ew⟩ : ∃ z : Nat, z = 0 := ⟨_, rfl⟩
      obtain ⟨lk, elk⟩ : ∃ z : Bool, z = false := ⟨_, rfl⟩
      replace hl : lv_has ls 4 [(0, .ref a), (1, .ref o), (2, .int (bi lk)), (3, .int (nI w))] := by subst ew elk; exact (lv_sub hl [2, 3, 1, 0] rfl)
      have inv : w ≤ 4 ∧ (lk = true ↔ (fI a 3 = fI o 3 ∧ fI a 4 = fI o 4) ∧ ∀ j, j < w → rJ bs j = rJ os j ∧ rJ bl j = rJ ol j) := by
        subst ew elk
        exact ⟨by omega, fun q => (nomatch q), fun q => absurd q.1 hc⟩
      have hf : 4 < w + 5 := by omega
      clear ew elk
      generalize 5 = d at hf
      induction d generalizing w lk H locs ls with
      | zero => exact absurd hf (by have := inv.1; omega)
      | succ d ih =>
        obtain ⟨hw, hlk⟩ := inv
        refine lv_iload_n hx hb dX1_isLike_30 rfl (lv_at hl 3 rfl) ?_
        refine lv_iconst (v := 4) hx hb dX1_isLike_31 (by decide) ?_
        refine lv_icmp_ge (tgt := 83) hx hb dX1_isLike_32 (by decide) (fun c0 => ?_) (fun c0 => ?_)
        · have hw : w = 4 := by
            rcases Nat.lt_or_ge w 4 with q | q
            · exact absurd c0 (nI_ge q (by decide))
            · omega
          subst hw
          refine lv_iconst (v := 0) hx hb dX1_isLike_83 (by decide) ?_
          refine lv_istore_n (lv' := [(3, .int 0), (0, .ref a), (1, .ref o), (2, .int (bi lk))]) hx hb dX1_isLike_84 rfl hl (by decide) rfl (fun ls hl => ?_)
          clear ih hf
          obtain ⟨w, ew⟩ : ∃ z : Nat, z = 0 := ⟨_, rfl⟩
          obtain ⟨l2, el2⟩ : ∃ z : Bool, z = lk := ⟨_, rfl⟩
          replace hl : lv_has ls 4 [(0, .ref a), (1, .ref o), (2, .int (bi l2)), (3, .int (nI w))] := by subst ew el2; exact (lv_sub hl [1, 2, 3, 0] rfl)
          have inv : w ≤ 32 ∧ (l2 = true ↔ lk = true ∧ ∀ j, j < w → rI bt j = rI ot j) := by
            subst ew el2
            exact ⟨by omega, fun q => ⟨q, fun j h => absurd h (Nat.not_lt_zero j)⟩, fun q => q.1⟩
          have hf : 32 < w + 33 := by omega
          clear ew el2
          generalize 33 = d at hf
          induction d generalizing w l2 H locs ls with
          | zero => exact absurd hf (by have := inv.1; omega)
          | succ d ih =>
            obtain ⟨hw2, hl2⟩ := inv
            refine lv_iload_n hx hb dX1_isLike_85 rfl (lv_at hl 3 rfl) ?_
            refine lv_bipush (v := 32) hx hb dX1_isLike_86 (by decide) ?_
            refine lv_icmp_ge (tgt := 122) hx hb dX1_isLike_88 (by decide) (fun c0 => ?_) (fun c0 => ?_)
            · have hw : w = 32 := by
                rcases Nat.lt_or_ge w 32 with q | q
                · exact absurd c0 (nI_ge q (by decide))
                · omega
              subst hw
              refine lv_iload_n hx hb dX1_isLike_122 rfl (lv_at hl 2 rfl) ?_
              refine W.widen (k := 0) (n := 0) (by omega) (by omega) ?_
              exact W.zret (v := (bi l2)) hx hb hr (bi_nar l2) (fun t ht hW => ⟨⟨(bi l2), l2, rfl, ⟨rfl, by rw [hl2, hlk]; exact ⟨fun q => ⟨q.1.1, q.1.2, q.2⟩, fun q => ⟨⟨q.1, q.2.1⟩, q.2.2⟩⟩⟩, hG.at ht⟩, hG.2.2.1.F ht⟩) hG.2.2.1.2.2 dX1_isLike_123
            · have hw : w < 32 := by
                rcases Nat.lt_or_ge w 32 with q | q
                · exact q
                · exact absurd (nI_le (a := 32) q (by omega)) c0
              refine lv_iload_n hx hb dX1_isLike_91 rfl (lv_at hl 2 rfl) ?_
              refine lv_if_eq (tgt := 114) hx hb dX1_isLike_92 (by decide) (fun c1 => ?_) (fun c1 => ?_)
              · have hd : ¬ (l2 = true ∧ rI bt w = rI ot w) := fun z => absurd (bi_0.mp c1) (by rw [z.1]; decide)
                refine lv_iconst (v := 0) hx hb dX1_isLike_114 (by decide) ?_
                refine lv_istore_n (lv' := [(2, .int 0), (0, .ref a), (1, .ref o), (3, .int (nI w))]) hx hb dX1_isLike_115 rfl hl (by decide) rfl (fun ls hl => ?_)
                refine lv_iinc (v := (nI (w + 1))) (lv' := [(3, .int (nI (w + 1))), (2, .int 0), (0, .ref a), (1, .ref o)]) hx hb dX1_isLike_116 hl (k := 3) rfl (nI_1 w) (by decide) rfl (fun ls hl => ?_)
                refine lv_goto (tgt := 85) hx hb dX1_isLike_119 (by decide) ?_
                exact ih (w := w + 1) (l2 := false) (hl := (lv_sub hl [2, 3, 1, 0] rfl)) (hG := hG) (inv := ⟨by omega, il_f2 hl2 hd⟩) (hf := by omega)
              · have c1 := ts_nf (fun z => c1 (bi_0.mpr z))
                refine lv_aload_n hx hb dX1_isLike_95 rfl (lv_at hl 0 rfl) ?_
                refine r_State_stamps hx hb hts (by decide +kernel) hown hK hG hLa hKa h2a (hts (.fieldLink RX1 18 "DotStores$State" "stamps" "[I") (by decide +kernel)) dX1_isLike_96 ?_
                refine lv_iload_n hx hb dX1_isLike_99 rfl (lv_at hl 3 rfl) ?_
                refine g_iald hx hb hK hG hLbt hKbt (w) rfl (by rw [hnbt]; omega) (by rw [hnbt]; decide) dX1_isLike_100 ?_
                refine lv_aload_n hx hb dX1_isLike_101 rfl (lv_at hl 1 rfl) ?_
                refine r_State_stamps hx hb hts (by decide +kernel) hown hK hG hLo hKo h2o (hts (.fieldLink RX1 18 "DotStores$State" "stamps" "[I") (by decide +kernel)) dX1_isLike_102 ?_
                refine lv_iload_n hx hb dX1_isLike_105 rfl (lv_at hl 3 rfl) ?_
                refine g_iald hx hb hK hG hLot hKot (w) rfl (by rw [hnot]; omega) (by rw [hnot]; decide) dX1_isLike_106 ?_
                refine lv_icmp_ne (tgt := 114) hx hb dX1_isLike_107 (by decide) (fun c2 => ?_) (fun c2 => ?_)
                · have hd : ¬ (l2 = true ∧ rI bt w = rI ot w) := fun z => c2 z.2
                  refine lv_iconst (v := 0) hx hb dX1_isLike_114 (by decide) ?_
                  refine lv_istore_n (lv' := [(2, .int 0), (0, .ref a), (1, .ref o), (3, .int (nI w))]) hx hb dX1_isLike_115 rfl hl (by decide) rfl (fun ls hl => ?_)
                  refine lv_iinc (v := (nI (w + 1))) (lv' := [(3, .int (nI (w + 1))), (2, .int 0), (0, .ref a), (1, .ref o)]) hx hb dX1_isLike_116 hl (k := 3) rfl (nI_1 w) (by decide) rfl (fun ls hl => ?_)
                  refine lv_goto (tgt := 85) hx hb dX1_isLike_119 (by decide) ?_
                  exact ih (w := w + 1) (l2 := false) (hl := (lv_sub hl [2, 3, 1, 0] rfl)) (hG := hG) (inv := ⟨by omega, il_f2 hl2 hd⟩) (hf := by omega)
                · refine lv_iconst (v := 1) hx hb dX1_isLike_110 (by decide) ?_
                  refine lv_goto (tgt := 115) hx hb dX1_isLike_111 (by decide) ?_
                  refine lv_istore_n (lv' := [(2, .int 1), (0, .ref a), (1, .ref o), (3, .int (nI w))]) hx hb dX1_isLike_115 rfl hl (by decide) rfl (fun ls hl => ?_)
                  refine lv_iinc (v := (nI (w + 1))) (lv' := [(3, .int (nI (w + 1))), (2, .int 1), (0, .ref a), (1, .ref o)]) hx hb dX1_isLike_116 hl (k := 3) rfl (nI_1 w) (by decide) rfl (fun ls hl => ?_)
                  refine lv_goto (tgt := 85) hx hb dX1_isLike_119 (by decide) ?_
                  exact ih (w := w + 1) (l2 := true) (hl := (lv_sub hl [2, 3, 1, 0] rfl)) (hG := hG) (inv := ⟨by omega, il_t2 hl2 c1 c2⟩) (hf := by omega)
        · have hw : w < 4 := by
            rcases Nat.lt_or_ge w 4 with q | q
            · exact q
            · exact absurd (nI_le (a := 4) q (by omega)) c0
          refine lv_iload_n hx hb dX1_isLike_35 rfl (lv_at hl 2 rfl) ?_
          refine lv_if_eq (tgt := 75) hx hb dX1_isLike_36 (by decide) (fun c1 => ?_) (fun c1 => ?_)
          · have hd : ¬ (lk = true ∧ rJ bs w = rJ os w ∧ rJ bl w = rJ ol w) := fun z => absurd (bi_0.mp c1) (by rw [z.1]; decide)
            refine lv_iconst (v := 0) hx hb dX1_isLike_75 (by decide) ?_
            refine lv_istore_n (lv' := [(2, .int 0), (0, .ref a), (1, .ref o), (3, .int (nI w))]) hx hb dX1_isLike_76 rfl hl (by decide) rfl (fun ls hl => ?_)
            refine lv_iinc (v := (nI (w + 1))) (lv' := [(3, .int (nI (w + 1))), (2, .int 0), (0, .ref a), (1, .ref o)]) hx hb dX1_isLike_77 hl (k := 3) rfl (nI_1 w) (by decide) rfl (fun ls hl => ?_)
            refine lv_goto (tgt := 30) hx hb dX1_isLike_80 (by decide) ?_
            exact ih (w := w + 1) (lk := false) (hl := (lv_sub hl [2, 3, 1, 0] rfl)) (hG := hG) (inv := ⟨by omega, il_f hlk hd⟩) (hf := by omega)
          · have c1 := ts_nf (fun z => c1 (bi_0.mpr z))
            refine lv_aload_n hx hb dX1_isLike_39 rfl (lv_at hl 0 rfl) ?_
            refine r_State_seen hx hb hts (by decide +kernel) hown hK hG hLa hKa h0a (hts (.fieldLink RX1 9 "DotStores$State" "seen" "[J") (by decide +kernel)) dX1_isLike_40 ?_
            refine lv_iload_n hx hb dX1_isLike_43 rfl (lv_at hl 3 rfl) ?_
            refine g_lald hx hb hK hG hLbs hKbs (w) rfl (by rw [hnbs]; omega) (by rw [hnbs]; decide) dX1_isLike_44 ?_
            refine lv_aload_n hx hb dX1_isLike_45 rfl (lv_at hl 1 rfl) ?_
            refine r_State_seen hx hb hts (by decide +kernel) hown hK hG hLo hKo h0o (hts (.fieldLink RX1 9 "DotStores$State" "seen" "[J") (by decide +kernel)) dX1_isLike_46 ?_
            refine lv_iload_n hx hb dX1_isLike_49 rfl (lv_at hl 3 rfl) ?_
            refine g_lald hx hb hK hG hLos hKos (w) rfl (by rw [hnos]; omega) (by rw [hnos]; decide) dX1_isLike_50 ?_
            refine W.lcmp hx hb dX1_isLike_51 ?_
            refine lv_if_ne (tgt := 75) hx hb dX1_isLike_52 (by decide) (fun c2 => ?_) (fun c2 => ?_)
            · have hd : ¬ (lk = true ∧ rJ bs w = rJ os w ∧ rJ bl w = rJ ol w) := fun z => c2 ((lg_cmp_eq _ _).mpr z.2.1)
              refine lv_iconst (v := 0) hx hb dX1_isLike_75 (by decide) ?_
              refine lv_istore_n (lv' := [(2, .int 0), (0, .ref a), (1, .ref o), (3, .int (nI w))]) hx hb dX1_isLike_76 rfl hl (by decide) rfl (fun ls hl => ?_)
              refine lv_iinc (v := (nI (w + 1))) (lv' := [(3, .int (nI (w + 1))), (2, .int 0), (0, .ref a), (1, .ref o)]) hx hb dX1_isLike_77 hl (k := 3) rfl (nI_1 w) (by decide) rfl (fun ls hl => ?_)
              refine lv_goto (tgt := 30) hx hb dX1_isLike_80 (by decide) ?_
              exact ih (w := w + 1) (lk := false) (hl := (lv_sub hl [2, 3, 1, 0] rfl)) (hG := hG) (inv := ⟨by omega, il_f hlk hd⟩) (hf := by omega)
            · have c2 := (lg_cmp_eq _ _).mp c2
              refine lv_aload_n hx hb dX1_isLike_55 rfl (lv_at hl 0 rfl) ?_
              refine r_State_live hx hb hts (by decide +kernel) hown hK hG hLa hKa h1a (hts (.fieldLink RX1 15 "DotStores$State" "live" "[J") (by decide +kernel)) dX1_isLike_56 ?_
              refine lv_iload_n hx hb dX1_isLike_59 rfl (lv_at hl 3 rfl) ?_
              refine g_lald hx hb hK hG hLbl hKbl (w) rfl (by rw [hnbl]; omega) (by rw [hnbl]; decide) dX1_isLike_60 ?_
              refine lv_aload_n hx hb dX1_isLike_61 rfl (lv_at hl 1 rfl) ?_
              refine r_State_live hx hb hts (by decide +kernel) hown hK hG hLo hKo h1o (hts (.fieldLink RX1 15 "DotStores$State" "live" "[J") (by decide +kernel)) dX1_isLike_62 ?_
              refine lv_iload_n hx hb dX1_isLike_65 rfl (lv_at hl 3 rfl) ?_
              refine g_lald hx hb hK hG hLol hKol (w) rfl (by rw [hnol]; omega) (by rw [hnol]; decide) dX1_isLike_66 ?_
              refine W.lcmp hx hb dX1_isLike_67 ?_
              refine lv_if_ne (tgt := 75) hx hb dX1_isLike_68 (by decide) (fun c3 => ?_) (fun c3 => ?_)
              · have hd : ¬ (lk = true ∧ rJ bs w = rJ os w ∧ rJ bl w = rJ ol w) := fun z => c3 ((lg_cmp_eq _ _).mpr z.2.2)
                refine lv_iconst (v := 0) hx hb dX1_isLike_75 (by decide) ?_
                refine lv_istore_n (lv' := [(2, .int 0), (0, .ref a), (1, .ref o), (3, .int (nI w))]) hx hb dX1_isLike_76 rfl hl (by decide) rfl (fun ls hl => ?_)
                refine lv_iinc (v := (nI (w + 1))) (lv' := [(3, .int (nI (w + 1))), (2, .int 0), (0, .ref a), (1, .ref o)]) hx hb dX1_isLike_77 hl (k := 3) rfl (nI_1 w) (by decide) rfl (fun ls hl => ?_)
                refine lv_goto (tgt := 30) hx hb dX1_isLike_80 (by decide) ?_
                exact ih (w := w + 1) (lk := false) (hl := (lv_sub hl [2, 3, 1, 0] rfl)) (hG := hG) (inv := ⟨by omega, il_f hlk hd⟩) (hf := by omega)
              · have c3 := (lg_cmp_eq _ _).mp c3
                refine lv_iconst (v := 1) hx hb dX1_isLike_71 (by decide) ?_
                refine lv_goto (tgt := 76) hx hb dX1_isLike_72 (by decide) ?_
                refine lv_istore_n (lv' := [(2, .int 1), (0, .ref a), (1, .ref o), (3, .int (nI w))]) hx hb dX1_isLike_76 rfl hl (by decide) rfl (fun ls hl => ?_)
                refine lv_iinc (v := (nI (w + 1))) (lv' := [(3, .int (nI (w + 1))), (2, .int 1), (0, .ref a), (1, .ref o)]) hx hb dX1_isLike_77 hl (k := 3) rfl (nI_1 w) (by decide) rfl (fun ls hl => ?_)
                refine lv_goto (tgt := 30) hx hb dX1_isLike_80 (by decide) ?_
                exact ih (w := w + 1) (lk := true) (hl := (lv_sub hl [2, 3, 1, 0] rfl)) (hG := hG) (inv := ⟨by omega, il_t hlk c1 c2 c3⟩) (hf := by omega)
    · have hc : fI a 3 = fI o 3 ∧ fI a 4 = fI o 4 := ⟨c1, c2⟩
      refine lv_iconst (v := 1) hx hb dX1_isLike_22 (by decide) ?_
      refine lv_goto (tgt := 27) hx hb dX1_isLike_23 (by decide) ?_
      refine lv_istore_n (lv' := [(2, .int 1), (0, .ref a), (1, .ref o)]) hx hb dX1_isLike_27 rfl hl (by decide) rfl (fun ls hl => ?_)
      refine lv_iconst (v := 0) hx hb dX1_isLike_28 (by decide) ?_
      refine lv_istore_n (lv' := [(3, .int 0), (2, .int 1), (0, .ref a), (1, .ref o)]) hx hb dX1_isLike_29 rfl hl (by decide) rfl (fun ls hl => ?_)
      obtain ⟨w, ew⟩ : ∃ z : Nat, z = 0 := ⟨_, rfl⟩
      obtain ⟨lk, elk⟩ : ∃ z : Bool, z = true := ⟨_, rfl⟩
      replace hl : lv_has ls 4 [(0, .ref a), (1, .ref o), (2, .int (bi lk)), (3, .int (nI w))] := by subst ew elk; exact (lv_sub hl [2, 3, 1, 0] rfl)
      have inv : w ≤ 4 ∧ (lk = true ↔ (fI a 3 = fI o 3 ∧ fI a 4 = fI o 4) ∧ ∀ j, j < w → rJ bs j = rJ os j ∧ rJ bl j = rJ ol j) := by
        subst ew elk
        exact ⟨by omega, fun _ => ⟨hc, fun j h => absurd h (Nat.not_lt_zero j)⟩, fun _ => rfl⟩
      have hf : 4 < w + 5 := by omega
      clear ew elk
      generalize 5 = d at hf
      induction d generalizing w lk H locs ls with
      | zero => exact absurd hf (by have := inv.1; omega)
      | succ d ih =>
        obtain ⟨hw, hlk⟩ := inv
        refine lv_iload_n hx hb dX1_isLike_30 rfl (lv_at hl 3 rfl) ?_
        refine lv_iconst (v := 4) hx hb dX1_isLike_31 (by decide) ?_
        refine lv_icmp_ge (tgt := 83) hx hb dX1_isLike_32 (by decide) (fun c0 => ?_) (fun c0 => ?_)
        · have hw : w = 4 := by
            rcases Nat.lt_or_ge w 4 with q | q
            · exact absurd c0 (nI_ge q (by decide))
            · omega
          subst hw
          refine lv_iconst (v := 0) hx hb dX1_isLike_83 (by decide) ?_
          refine lv_istore_n (lv' := [(3, .int 0), (0, .ref a), (1, .ref o), (2, .int (bi lk))]) hx hb dX1_isLike_84 rfl hl (by decide) rfl (fun ls hl => ?_)
          clear ih hf
          obtain ⟨w, ew⟩ : ∃ z : Nat, z = 0 := ⟨_, rfl⟩
          obtain ⟨l2, el2⟩ : ∃ z : Bool, z = lk := ⟨_, rfl⟩
          replace hl : lv_has ls 4 [(0, .ref a), (1, .ref o), (2, .int (bi l2)), (3, .int (nI w))] := by subst ew el2; exact (lv_sub hl [1, 2, 3, 0] rfl)
          have inv : w ≤ 32 ∧ (l2 = true ↔ lk = true ∧ ∀ j, j < w → rI bt j = rI ot j) := by
            subst ew el2
            exact ⟨by omega, fun q => ⟨q, fun j h => absurd h (Nat.not_lt_zero j)⟩, fun q => q.1⟩
          have hf : 32 < w + 33 := by omega
          clear ew el2
          generalize 33 = d at hf
          induction d generalizing w l2 H locs ls with
          | zero => exact absurd hf (by have := inv.1; omega)
          | succ d ih =>
            obtain ⟨hw2, hl2⟩ := inv
            refine lv_iload_n hx hb dX1_isLike_85 rfl (lv_at hl 3 rfl) ?_
            refine lv_bipush (v := 32) hx hb dX1_isLike_86 (by decide) ?_
            refine lv_icmp_ge (tgt := 122) hx hb dX1_isLike_88 (by decide) (fun c0 => ?_) (fun c0 => ?_)
            · have hw : w = 32 := by
                rcases Nat.lt_or_ge w 32 with q | q
                · exact absurd c0 (nI_ge q (by decide))
                · omega
              subst hw
              refine lv_iload_n hx hb dX1_isLike_122 rfl (lv_at hl 2 rfl) ?_
              refine W.widen (k := 0) (n := 0) (by omega) (by omega) ?_
              exact W.zret (v := (bi l2)) hx hb hr (bi_nar l2) (fun t ht hW => ⟨⟨(bi l2), l2, rfl, ⟨rfl, by rw [hl2, hlk]; exact ⟨fun q => ⟨q.1.1, q.1.2, q.2⟩, fun q => ⟨⟨q.1, q.2.1⟩, q.2.2⟩⟩⟩, hG.at ht⟩, hG.2.2.1.F ht⟩) hG.2.2.1.2.2 dX1_isLike_123
            · have hw : w < 32 := by
                rcases Nat.lt_or_ge w 32 with q | q
                · exact q
                · exact absurd (nI_le (a := 32) q (by omega)) c0
              refine lv_iload_n hx hb dX1_isLike_91 rfl (lv_at hl 2 rfl) ?_
              refine lv_if_eq (tgt := 114) hx hb dX1_isLike_92 (by decide) (fun c1 => ?_) (fun c1 => ?_)
              · have hd : ¬ (l2 = true ∧ rI bt w = rI ot w) := fun z => absurd (bi_0.mp c1) (by rw [z.1]; decide)
                refine lv_iconst (v := 0) hx hb dX1_isLike_114 (by decide) ?_
                refine lv_istore_n (lv' := [(2, .int 0), (0, .ref a), (1, .ref o), (3, .int (nI w))]) hx hb dX1_isLike_115 rfl hl (by decide) rfl (fun ls hl => ?_)
                refine lv_iinc (v := (nI (w + 1))) (lv' := [(3, .int (nI (w + 1))), (2, .int 0), (0, .ref a), (1, .ref o)]) hx hb dX1_isLike_116 hl (k := 3) rfl (nI_1 w) (by decide) rfl (fun ls hl => ?_)
                refine lv_goto (tgt := 85) hx hb dX1_isLike_119 (by decide) ?_
                exact ih (w := w + 1) (l2 := false) (hl := (lv_sub hl [2, 3, 1, 0] rfl)) (hG := hG) (inv := ⟨by omega, il_f2 hl2 hd⟩) (hf := by omega)
              · have c1 := ts_nf (fun z => c1 (bi_0.mpr z))
                refine lv_aload_n hx hb dX1_isLike_95 rfl (lv_at hl 0 rfl) ?_
                refine r_State_stamps hx hb hts (by decide +kernel) hown hK hG hLa hKa h2a (hts (.fieldLink RX1 18 "DotStores$State" "stamps" "[I") (by decide +kernel)) dX1_isLike_96 ?_
                refine lv_iload_n hx hb dX1_isLike_99 rfl (lv_at hl 3 rfl) ?_
                refine g_iald hx hb hK hG hLbt hKbt (w) rfl (by rw [hnbt]; omega) (by rw [hnbt]; decide) dX1_isLike_100 ?_
                refine lv_aload_n hx hb dX1_isLike_101 rfl (lv_at hl 1 rfl) ?_
                refine r_State_stamps hx hb hts (by decide +kernel) hown hK hG hLo hKo h2o (hts (.fieldLink RX1 18 "DotStores$State" "stamps" "[I") (by decide +kernel)) dX1_isLike_102 ?_
                refine lv_iload_n hx hb dX1_isLike_105 rfl (lv_at hl 3 rfl) ?_
                refine g_iald hx hb hK hG hLot hKot (w) rfl (by rw [hnot]; omega) (by rw [hnot]; decide) dX1_isLike_106 ?_
                refine lv_icmp_ne (tgt := 114) hx hb dX1_isLike_107 (by decide) (fun c2 => ?_) (fun c2 => ?_)
                · have hd : ¬ (l2 = true ∧ rI bt w = rI ot w) := fun z => c2 z.2
                  refine lv_iconst (v := 0) hx hb dX1_isLike_114 (by decide) ?_
                  refine lv_istore_n (lv' := [(2, .int 0), (0, .ref a), (1, .ref o), (3, .int (nI w))]) hx hb dX1_isLike_115 rfl hl (by decide) rfl (fun ls hl => ?_)
                  refine lv_iinc (v := (nI (w + 1))) (lv' := [(3, .int (nI (w + 1))), (2, .int 0), (0, .ref a), (1, .ref o)]) hx hb dX1_isLike_116 hl (k := 3) rfl (nI_1 w) (by decide) rfl (fun ls hl => ?_)
                  refine lv_goto (tgt := 85) hx hb dX1_isLike_119 (by decide) ?_
                  exact ih (w := w + 1) (l2 := false) (hl := (lv_sub hl [2, 3, 1, 0] rfl)) (hG := hG) (inv := ⟨by omega, il_f2 hl2 hd⟩) (hf := by omega)
                · refine lv_iconst (v := 1) hx hb dX1_isLike_110 (by decide) ?_
                  refine lv_goto (tgt := 115) hx hb dX1_isLike_111 (by decide) ?_
                  refine lv_istore_n (lv' := [(2, .int 1), (0, .ref a), (1, .ref o), (3, .int (nI w))]) hx hb dX1_isLike_115 rfl hl (by decide) rfl (fun ls hl => ?_)
                  refine lv_iinc (v := (nI (w + 1))) (lv' := [(3, .int (nI (w + 1))), (2, .int 1), (0, .ref a), (1, .ref o)]) hx hb dX1_isLike_116 hl (k := 3) rfl (nI_1 w) (by decide) rfl (fun ls hl => ?_)
                  refine lv_goto (tgt := 85) hx hb dX1_isLike_119 (by decide) ?_
                  exact ih (w := w + 1) (l2 := true) (hl := (lv_sub hl [2, 3, 1, 0] rfl)) (hG := hG) (inv := ⟨by omega, il_t2 hl2 c1 c2⟩) (hf := by omega)
        · have hw : w < 4 := by
            rcases Nat.lt_or_ge w 4 with q | q
            · exact q
            · exact absurd (nI_le (a := 4) q (by omega)) c0
          refine lv_iload_n hx hb dX1_isLike_35 rfl (lv_at hl 2 rfl) ?_
          refine lv_if_eq (tgt := 75) hx hb dX1_isLike_36 (by decide) (fun c1 => ?_) (fun c1 => ?_)
          · have hd : ¬ (lk = true ∧ rJ bs w = rJ os w ∧ rJ bl w = rJ ol w) := fun z => absurd (bi_0.mp c1) (by rw [z.1]; decide)
            refine lv_iconst (v := 0) hx hb dX1_isLike_75 (by decide) ?_
            refine lv_istore_n (lv' := [(2, .int 0), (0, .ref a), (1, .ref o), (3, .int (nI w))]) hx hb dX1_isLike_76 rfl hl (by decide) rfl (fun ls hl => ?_)
            refine lv_iinc (v := (nI (w + 1))) (lv' := [(3, .int (nI (w + 1))), (2, .int 0), (0, .ref a), (1, .ref o)]) hx hb dX1_isLike_77 hl (k := 3) rfl (nI_1 w) (by decide) rfl (fun ls hl => ?_)
            refine lv_goto (tgt := 30) hx hb dX1_isLike_80 (by decide) ?_
            exact ih (w := w + 1) (lk := false) (hl := (lv_sub hl [2, 3, 1, 0] rfl)) (hG := hG) (inv := ⟨by omega, il_f hlk hd⟩) (hf := by omega)
          · have c1 := ts_nf (fun z => c1 (bi_0.mpr z))
            refine lv_aload_n hx hb dX1_isLike_39 rfl (lv_at hl 0 rfl) ?_
            refine r_State_seen hx hb hts (by decide +kernel) hown hK hG hLa hKa h0a (hts (.fieldLink RX1 9 "DotStores$State" "seen" "[J") (by decide +kernel)) dX1_isLike_40 ?_
            refine lv_iload_n hx hb dX1_isLike_43 rfl (lv_at hl 3 rfl) ?_
            refine g_lald hx hb hK hG hLbs hKbs (w) rfl (by rw [hnbs]; omega) (by rw [hnbs]; decide) dX1_isLike_44 ?_
            refine lv_aload_n hx hb dX1_isLike_45 rfl (lv_at hl 1 rfl) ?_
            refine r_State_seen hx hb hts (by decide +kernel) hown hK hG hLo hKo h0o (hts (.fieldLink RX1 9 "DotStores$State" "seen" "[J") (by decide +kernel)) dX1_isLike_46 ?_
            refine lv_iload_n hx hb dX1_isLike_49 rfl (lv_at hl 3 rfl) ?_
            refine g_lald hx hb hK hG hLos hKos (w) rfl (by rw [hnos]; omega) (by rw [hnos]; decide) dX1_isLike_50 ?_
            refine W.lcmp hx hb dX1_isLike_51 ?_
            refine lv_if_ne (tgt := 75) hx hb dX1_isLike_52 (by decide) (fun c2 => ?_) (fun c2 => ?_)
            · have hd : ¬ (lk = true ∧ rJ bs w = rJ os w ∧ rJ bl w = rJ ol w) := fun z => c2 ((lg_cmp_eq _ _).mpr z.2.1)
              refine lv_iconst (v := 0) hx hb dX1_isLike_75 (by decide) ?_
              refine lv_istore_n (lv' := [(2, .int 0), (0, .ref a), (1, .ref o), (3, .int (nI w))]) hx hb dX1_isLike_76 rfl hl (by decide) rfl (fun ls hl => ?_)
              refine lv_iinc (v := (nI (w + 1))) (lv' := [(3, .int (nI (w + 1))), (2, .int 0), (0, .ref a), (1, .ref o)]) hx hb dX1_isLike_77 hl (k := 3) rfl (nI_1 w) (by decide) rfl (fun ls hl => ?_)
              refine lv_goto (tgt := 30) hx hb dX1_isLike_80 (by decide) ?_
              exact ih (w := w + 1) (lk := false) (hl := (lv_sub hl [2, 3, 1, 0] rfl)) (hG := hG) (inv := ⟨by omega, il_f hlk hd⟩) (hf := by omega)
            · have c2 := (lg_cmp_eq _ _).mp c2
              refine lv_aload_n hx hb dX1_isLike_55 rfl (lv_at hl 0 rfl) ?_
              refine r_State_live hx hb hts (by decide +kernel) hown hK hG hLa hKa h1a (hts (.fieldLink RX1 15 "DotStores$State" "live" "[J") (by decide +kernel)) dX1_isLike_56 ?_
              refine lv_iload_n hx hb dX1_isLike_59 rfl (lv_at hl 3 rfl) ?_
              refine g_lald hx hb hK hG hLbl hKbl (w) rfl (by rw [hnbl]; omega) (by rw [hnbl]; decide) dX1_isLike_60 ?_
              refine lv_aload_n hx hb dX1_isLike_61 rfl (lv_at hl 1 rfl) ?_
              refine r_State_live hx hb hts (by decide +kernel) hown hK hG hLo hKo h1o (hts (.fieldLink RX1 15 "DotStores$State" "live" "[J") (by decide +kernel)) dX1_isLike_62 ?_
              refine lv_iload_n hx hb dX1_isLike_65 rfl (lv_at hl 3 rfl) ?_
              refine g_lald hx hb hK hG hLol hKol (w) rfl (by rw [hnol]; omega) (by rw [hnol]; decide) dX1_isLike_66 ?_
              refine W.lcmp hx hb dX1_isLike_67 ?_
              refine lv_if_ne (tgt := 75) hx hb dX1_isLike_68 (by decide) (fun c3 => ?_) (fun c3 => ?_)
              · have hd : ¬ (lk = true ∧ rJ bs w = rJ os w ∧ rJ bl w = rJ ol w) := fun z => c3 ((lg_cmp_eq _ _).mpr z.2.2)
                refine lv_iconst (v := 0) hx hb dX1_isLike_75 (by decide) ?_
                refine lv_istore_n (lv' := [(2, .int 0), (0, .ref a), (1, .ref o), (3, .int (nI w))]) hx hb dX1_isLike_76 rfl hl (by decide) rfl (fun ls hl => ?_)
                refine lv_iinc (v := (nI (w + 1))) (lv' := [(3, .int (nI (w + 1))), (2, .int 0), (0, .ref a), (1, .ref o)]) hx hb dX1_isLike_77 hl (k := 3) rfl (nI_1 w) (by decide) rfl (fun ls hl => ?_)
                refine lv_goto (tgt := 30) hx hb dX1_isLike_80 (by decide) ?_
                exact ih (w := w + 1) (lk := false) (hl := (lv_sub hl [2, 3, 1, 0] rfl)) (hG := hG) (inv := ⟨by omega, il_f hlk hd⟩) (hf := by omega)
              · have c3 := (lg_cmp_eq _ _).mp c3
                refine lv_iconst (v := 1) hx hb dX1_isLike_71 (by decide) ?_
                refine lv_goto (tgt := 76) hx hb dX1_isLike_72 (by decide) ?_
                refine lv_istore_n (lv' := [(2, .int 1), (0, .ref a), (1, .ref o), (3, .int (nI w))]) hx hb dX1_isLike_76 rfl hl (by decide) rfl (fun ls hl => ?_)
                refine lv_iinc (v := (nI (w + 1))) (lv' := [(3, .int (nI (w + 1))), (2, .int 1), (0, .ref a), (1, .ref o)]) hx hb dX1_isLike_77 hl (k := 3) rfl (nI_1 w) (by decide) rfl (fun ls hl => ?_)
                refine lv_goto (tgt := 30) hx hb dX1_isLike_80 (by decide) ?_
                exact ih (w := w + 1) (lk := true) (hl := (lv_sub hl [2, 3, 1, 0] rfl)) (hG := hG) (inv := ⟨by omega, il_t hlk c1 c2 c3⟩) (hf := by omega)
set_option maxHeartbeats 4000000 in
set_option maxRecDepth 100000 in
/-- State(): three rows of noughts -/
theorem c_State_init (l : Launch) (G : gG) (base : Nat) {L : List Nat} {K n : Nat → Nat} {rI : Nat → Nat → Int32} {rJ : Nat → Nat → Int64} {rQ : Nat → Nat → Option Nat} {fI : Nat → Nat → Int32} {fR : Nat → Nat → Option Nat} {a : Nat} (hLa : a ∈ L) (hKa : K a = 1) : Met l yX1_init wsX1_init ({ frames := 1, cells := 3, slots := 40, locals := 14 }) (va_Pc [.ref a] (g_Pr G base (L, K, n, rI, rJ, rQ, fI, fR))) (g_Qv G base (fun u : Nat × Nat × Nat => ((((L ++ [u.1]) ++ [u.2.1]) ++ [u.2.2]), (va_up (va_up (va_up K u.1 5) u.2.1 5) u.2.2 4), (va_up (va_up (va_up n u.1 4) u.2.1 4) u.2.2 32), (va_up rI u.2.2 (fun _ => 0)), (va_up (va_up rJ u.1 (fun _ => 0)) u.2.1 (fun _ => 0)), rQ, (g_up ((g_up (fI) a 3 0)) a 4 0), (g_up ((g_up ((g_up (fR) a 0 (some u.1))) a 1 (some u.2.1))) a 2 (some u.2.2)))) (fun u => u.1 ∉ L ∧ u.2.1 ∉ L ++ [u.1] ∧ u.2.2 ∉ L ++ [u.1] ++ [u.2.1])) 3 40 (g_A base) := by
  refine Met.ofW (cc := cX1_init) (maxL := 1) (ret := none) (by decide) rfl ?_
  intro p e s m args below meth c s₁ B hml hv
  obtain ⟨rfl, hPr⟩ := hv
  have hx := B.exec
  have hb := B.bytes
  have hr := B.returns
  have hts := atoms_spec (ws := wsX1_init) B.pre
  have hown : s.vm.findClass RX1 = some m.cls := findClass_of_methodNamed B.named
  have hlocks := B.notSynchronized
  have hin : meth.name = "<init>" := (name_of_methodNamed B.named B.method).1
  have hK := hPr.2.2
  have hG := hPr.gw
  have hl := lv_entry ([.ref a]) (n := 1) (Nat.le_of_ble_eq_true rfl)
  rw [lg_entry_eq]
  generalize (lg_sl ([.ref a]) ++ List.replicate (1 - (lg_sl ([.ref a])).length) Slot.unset).toArray = ls at hl ⊢
  have hl : lv_has ls 1 [(0, .ref a)] := hl
  refine g_start hPr (fun H locs hG => ?_)
  refine lv_aload_n hx hb dX1_init_0 rfl (lv_at hl 0 rfl) ?_
  refine W.objInit hx hb hown (hts (.methodLink RX1 3 objectInit) (by decide +kernel)) (hts (.instanceMethod objectInit) (by decide +kernel)) (hts (.code objectInit ⟨#[0xb1]⟩ 1 none) (by decide +kernel)) rfl (by rw [hml]; exact hl.1) rfl dX1_init_1 (Nat.le_of_ble_eq_true rfl) (Nat.le_of_ble_eq_true rfl) ?_
  refine W.eq (g2 := F0 m 4 ls []) rfl ?_
  refine lv_aload_n hx hb dX1_init_4 rfl (lv_at hl 0 rfl) ?_
  refine lv_iconst (v := 4) hx hb dX1_init_5 (by decide) ?_
  refine g_newa5 hx hb (hts (.arrayClass .long) (by decide +kernel)) hK hG 4 rfl (by decide) (Nat.le_of_ble_eq_true rfl) (Nat.le_of_ble_eq_true rfl) dX1_init_6 (fun qs H hqs hG => ?_)
  refine w_State_seen hx hb hts (by decide +kernel) hown hK hG (up_l hLa) (up_k hqs hLa hKa) hin (hts (.fieldLink RX1 9 "DotStores$State" "seen" "[J") (by decide +kernel)) dX1_init_8 (fun H locs hG => ?_)
  refine lv_aload_n hx hb dX1_init_11 rfl (lv_at hl 0 rfl) ?_
  refine lv_iconst (v := 4) hx hb dX1_init_12 (by decide) ?_
  refine g_newa5 hx hb (hts (.arrayClass .long) (by decide +kernel)) hK hG 4 rfl (by decide) (Nat.le_of_ble_eq_true rfl) (Nat.le_of_ble_eq_true rfl) dX1_init_13 (fun ql H hql hG => ?_)
  refine w_State_live hx hb hts (by decide +kernel) hown hK hG (up_l (up_l hLa)) (up_k hql (up_l hLa) (up_k hqs hLa hKa)) hin (hts (.fieldLink RX1 15 "DotStores$State" "live" "[J") (by decide +kernel)) dX1_init_15 (fun H locs hG => ?_)
  refine lv_aload_n hx hb dX1_init_18 rfl (lv_at hl 0 rfl) ?_
  refine lv_bipush (v := 32) hx hb dX1_init_19 (by decide) ?_
  refine g_newa4 hx hb (hts (.arrayClass .int) (by decide +kernel)) hK hG 32 rfl (by decide) (Nat.le_of_ble_eq_true rfl) (Nat.le_of_ble_eq_true rfl) dX1_init_21 (fun qt H hqt hG => ?_)
  refine w_State_stamps hx hb hts (by decide +kernel) hown hK hG (up_l (up_l (up_l hLa))) (up_k hqt (up_l (up_l hLa)) (up_k hql (up_l hLa) (up_k hqs hLa hKa))) hin (hts (.fieldLink RX1 18 "DotStores$State" "stamps" "[I") (by decide +kernel)) dX1_init_23 (fun H locs hG => ?_)
  refine lv_aload_n hx hb dX1_init_26 rfl (lv_at hl 0 rfl) ?_
  refine lv_iconst (v := 0) hx hb dX1_init_27 (by decide) ?_
  refine w_State_put hx hb hts (by decide +kernel) hown hK hG (up_l (up_l (up_l hLa))) (up_k hqt (up_l (up_l hLa)) (up_k hql (up_l hLa) (up_k hqs hLa hKa))) (hts (.fieldLink RX1 22 "DotStores$State" "put" "I") (by decide +kernel)) dX1_init_28 (fun H locs hG => ?_)
  refine lv_aload_n hx hb dX1_init_31 rfl (lv_at hl 0 rfl) ?_
  refine lv_iconst (v := 0) hx hb dX1_init_32 (by decide) ?_
  refine w_State_taken hx hb hts (by decide +kernel) hown hK hG (up_l (up_l (up_l hLa))) (up_k hqt (up_l (up_l hLa)) (up_k hql (up_l hLa) (up_k hqs hLa hKa))) (hts (.fieldLink RX1 26 "DotStores$State" "taken" "I") (by decide +kernel)) dX1_init_33 (fun H locs hG => ?_)
  refine W.widen (k := 3) (n := 40) (by omega) (by omega) ?_
  exact W.vret hx hb hr (fun t ht hW => ⟨⟨(qs, ql, qt), rfl, ⟨hqs, hql, hqt⟩, hG.at ht⟩, hG.2.2.1.F ht⟩) hG.2.2.1.2.2 dX1_init_36
end
section
set_option maxHeartbeats 4000000 in
set_option maxRecDepth 100000 in
/-- Dots(): six rows of noughts -/
theorem c_Dots_init (l : Launch) (G : gG) (base : Nat) {L : List Nat} {K n : Nat → Nat} {rI : Nat → Nat → Int32} {rJ : Nat → Nat → Int64} {rQ : Nat → Nat → Option Nat} {fI : Nat → Nat → Int32} {fR : Nat → Nat → Option Nat} {a : Nat} (hLa : a ∈ L) (hKa : K a = 0) : Met l yX0_init wsX0_init ({ frames := 1, cells := 6, slots := 1256, locals := 14 }) (va_Pc [.ref a] (g_Pr G base (L, K, n, rI, rJ, rQ, fI, fR))) (g_Qv G base (fun u : Nat × Nat × Nat × Nat × Nat × Nat => (((((((L ++ [u.1]) ++ [u.2.1]) ++ [u.2.2.1]) ++ [u.2.2.2.1]) ++ [u.2.2.2.2.1]) ++ [u.2.2.2.2.2]), (va_up (va_up (va_up (va_up (va_up (va_up K u.1 4) u.2.1 4) u.2.2.1 4) u.2.2.2.1 4) u.2.2.2.2.1 5) u.2.2.2.2.2 4), (va_up (va_up (va_up (va_up (va_up (va_up n u.1 250) u.2.1 250) u.2.2.1 250) u.2.2.2.1 250) u.2.2.2.2.1 250) u.2.2.2.2.2 6), (va_up (va_up (va_up (va_up (va_up rI u.1 (fun _ => 0)) u.2.1 (fun _ => 0)) u.2.2.1 (fun _ => 0)) u.2.2.2.1 (fun _ => 0)) u.2.2.2.2.2 (fun _ => 0)), (va_up rJ u.2.2.2.2.1 (fun _ => 0)), rQ, (g_up (fI) a 6 0), (g_up ((g_up ((g_up ((g_up ((g_up ((g_up (fR) a 0 (some u.1))) a 1 (some u.2.1))) a 2 (some u.2.2.1))) a 3 (some u.2.2.2.1))) a 4 (some u.2.2.2.2.1))) a 5 (some u.2.2.2.2.2)))) (fun u => u.1 ∉ L ∧ u.2.1 ∉ L ++ [u.1] ∧ u.2.2.1 ∉ L ++ [u.1] ++ [u.2.1] ∧ u.2.2.2.1 ∉ L ++ [u.1] ++ [u.2.1] ++ [u.2.2.1] ∧ u.2.2.2.2.1 ∉ L ++ [u.1] ++ [u.2.1] ++ [u.2.2.1] ++ [u.2.2.2.1] ∧ u.2.2.2.2.2 ∉ L ++ [u.1] ++ [u.2.1] ++ [u.2.2.1] ++ [u.2.2.2.1] ++ [u.2.2.2.2.1])) 6 1256 (g_A base) := by
  refine Met.ofW (cc := cX0_init) (maxL := 1) (ret := none) (by decide) rfl ?_
  intro p e s m args below meth c s₁ B hml hv
  obtain ⟨rfl, hPr⟩ := hv
  have hx := B.exec
  have hb := B.bytes
  have hr := B.returns
  have hts := atoms_spec (ws := wsX0_init) B.pre
  have hown : s.vm.findClass RX0 = some m.cls := findClass_of_methodNamed B.named
  have hlocks := B.notSynchronized
  have hin : meth.name = "<init>" := (name_of_methodNamed B.named B.method).1
  have hK := hPr.2.2
  have hG := hPr.gw
  have hl := lv_entry ([.ref a]) (n := 1) (Nat.le_of_ble_eq_true rfl)
  rw [lg_entry_eq]
  generalize (lg_sl ([.ref a]) ++ List.replicate (1 - (lg_sl ([.ref a])).length) Slot.unset).toArray = ls at hl ⊢
  have hl : lv_has ls 1 [(0, .ref a)] := hl
  refine g_start hPr (fun H locs hG => ?_)
  refine lv_aload_n hx hb dX0_init_0 rfl (lv_at hl 0 rfl) ?_
  refine W.objInit hx hb hown (hts (.methodLink RX0 3 objectInit) (by decide +kernel)) (hts (.instanceMethod objectInit) (by decide +kernel)) (hts (.code objectInit ⟨#[0xb1]⟩ 1 none) (by decide +kernel)) rfl (by rw [hml]; exact hl.1) rfl dX0_init_1 (Nat.le_of_ble_eq_true rfl) (Nat.le_of_ble_eq_true rfl) ?_
  refine W.eq (g2 := F0 m 4 ls []) rfl ?_
  refine lv_aload_n hx hb dX0_init_4 rfl (lv_at hl 0 rfl) ?_
  refine lv_sipush (v := 250) hx hb dX0_init_5 (by decide) ?_
  refine g_newa4 hx hb (hts (.arrayClass .int) (by decide +kernel)) hK hG 250 rfl (by decide) (Nat.le_of_ble_eq_true rfl) (Nat.le_of_ble_eq_true rfl) dX0_init_8 (fun qa H hqa hG => ?_)
  refine w_Dots_replica hx hb hts (by decide +kernel) hown hK hG (up_l hLa) (up_k hqa hLa hKa) hin (hts (.fieldLink RX0 9 "DotStores$Dots" "replica" "[I") (by decide +kernel)) dX0_init_10 (fun H locs hG => ?_)
  refine lv_aload_n hx hb dX0_init_13 rfl (lv_at hl 0 rfl) ?_
  refine lv_sipush (v := 250) hx hb dX0_init_14 (by decide) ?_
  refine g_newa4 hx hb (hts (.arrayClass .int) (by decide +kernel)) hK hG 250 rfl (by decide) (Nat.le_of_ble_eq_true rfl) (Nat.le_of_ble_eq_true rfl) dX0_init_17 (fun qb H hqb hG => ?_)
  refine w_Dots_number hx hb hts (by decide +kernel) hown hK hG (up_l (up_l hLa)) (up_k hqb (up_l hLa) (up_k hqa hLa hKa)) hin (hts (.fieldLink RX0 15 "DotStores$Dots" "number" "[I") (by decide +kernel)) dX0_init_19 (fun H locs hG => ?_)
  refine lv_aload_n hx hb dX0_init_22 rfl (lv_at hl 0 rfl) ?_
  refine lv_sipush (v := 250) hx hb dX0_init_23 (by decide) ?_
  refine g_newa4 hx hb (hts (.arrayClass .int) (by decide +kernel)) hK hG 250 rfl (by decide) (Nat.le_of_ble_eq_true rfl) (Nat.le_of_ble_eq_true rfl) dX0_init_26 (fun qc H hqc hG => ?_)
  refine w_Dots_key hx hb hts (by decide +kernel) hown hK hG (up_l (up_l (up_l hLa))) (up_k hqc (up_l (up_l hLa)) (up_k hqb (up_l hLa) (up_k hqa hLa hKa))) hin (hts (.fieldLink RX0 18 "DotStores$Dots" "key" "[I") (by decide +kernel)) dX0_init_28 (fun H locs hG => ?_)
  refine lv_aload_n hx hb dX0_init_31 rfl (lv_at hl 0 rfl) ?_
  refine lv_sipush (v := 250) hx hb dX0_init_32 (by decide) ?_
  refine g_newa4 hx hb (hts (.arrayClass .int) (by decide +kernel)) hK hG 250 rfl (by decide) (Nat.le_of_ble_eq_true rfl) (Nat.le_of_ble_eq_true rfl) dX0_init_35 (fun qd H hqd hG => ?_)
  refine w_Dots_part hx hb hts (by decide +kernel) hown hK hG (up_l (up_l (up_l (up_l hLa)))) (up_k hqd (up_l (up_l (up_l hLa))) (up_k hqc (up_l (up_l hLa)) (up_k hqb (up_l hLa) (up_k hqa hLa hKa)))) hin (hts (.fieldLink RX0 21 "DotStores$Dots" "part" "[I") (by decide +kernel)) dX0_init_37 (fun H locs hG => ?_)
  refine lv_aload_n hx hb dX0_init_40 rfl (lv_at hl 0 rfl) ?_
  refine lv_sipush (v := 250) hx hb dX0_init_41 (by decide) ?_
  refine g_newa5 hx hb (hts (.arrayClass .long) (by decide +kernel)) hK hG 250 rfl (by decide) (Nat.le_of_ble_eq_true rfl) (Nat.le_of_ble_eq_true rfl) dX0_init_44 (fun qe H hqe hG => ?_)
  refine w_Dots_value hx hb hts (by decide +kernel) hown hK hG (up_l (up_l (up_l (up_l (up_l hLa))))) (up_k hqe (up_l (up_l (up_l (up_l hLa)))) (up_k hqd (up_l (up_l (up_l hLa))) (up_k hqc (up_l (up_l hLa)) (up_k hqb (up_l hLa) (up_k hqa hLa hKa))))) hin (hts (.fieldLink RX0 24 "DotStores$Dots" "value" "[J") (by decide +kernel)) dX0_init_46 (fun H locs hG => ?_)
  refine lv_aload_n hx hb dX0_init_49 rfl (lv_at hl 0 rfl) ?_
  refine lv_bipush (v := 6) hx hb dX0_init_50 (by decide) ?_
  refine g_newa4 hx hb (hts (.arrayClass .int) (by decide +kernel)) hK hG 6 rfl (by decide) (Nat.le_of_ble_eq_true rfl) (Nat.le_of_ble_eq_true rfl) dX0_init_52 (fun qf H hqf hG => ?_)
  refine w_Dots_greatest hx hb hts (by decide +kernel) hown hK hG (up_l (up_l (up_l (up_l (up_l (up_l hLa)))))) (up_k hqf (up_l (up_l (up_l (up_l (up_l hLa))))) (up_k hqe (up_l (up_l (up_l (up_l hLa)))) (up_k hqd (up_l (up_l (up_l hLa))) (up_k hqc (up_l (up_l hLa)) (up_k hqb (up_l hLa) (up_k hqa hLa hKa)))))) hin (hts (.fieldLink RX0 28 "DotStores$Dots" "greatest" "[I") (by decide +kernel)) dX0_init_54 (fun H locs hG => ?_)
  refine lv_aload_n hx hb dX0_init_57 rfl (lv_at hl 0 rfl) ?_
  refine lv_iconst (v := 0) hx hb dX0_init_58 (by decide) ?_
  refine w_Dots_count hx hb hts (by decide +kernel) hown hK hG (up_l (up_l (up_l (up_l (up_l (up_l hLa)))))) (up_k hqf (up_l (up_l (up_l (up_l (up_l hLa))))) (up_k hqe (up_l (up_l (up_l (up_l hLa)))) (up_k hqd (up_l (up_l (up_l hLa))) (up_k hqc (up_l (up_l hLa)) (up_k hqb (up_l hLa) (up_k hqa hLa hKa)))))) (hts (.fieldLink RX0 31 "DotStores$Dots" "count" "I") (by decide +kernel)) dX0_init_59 (fun H locs hG => ?_)
  refine W.widen (k := 6) (n := 1256) (by omega) (by omega) ?_
  exact W.vret hx hb hr (fun t ht hW => ⟨⟨(qa, qb, qc, qd, qe, qf), rfl, ⟨hqa, hqb, hqc, hqd, hqe, hqf⟩, hG.at ht⟩, hG.2.2.1.F ht⟩) hG.2.2.1.2.2 dX0_init_62
set_option maxHeartbeats 4000000 in
set_option maxRecDepth 100000 in
/-- Dots.canMake(r) -/
theorem c_canMake (l : Launch) (G : gG) (base : Nat) {L : List Nat} {K n : Nat → Nat} {rI : Nat → Nat → Int32} {rJ : Nat → Nat → Int64} {rQ : Nat → Nat → Option Nat} {fI : Nat → Nat → Int32} {fR : Nat → Nat → Option Nat} {d dr dn dk dp dv dg : Nat} (hD : isDt L K n fR d dr dn dk dp dv dg) {r cnt g : Nat} (hr6 : r < 6) (hcnt : fI d 6 = nI cnt) (hc25 : cnt ≤ 250) (hg : rI dg r = nI g) (hg1 : g ≤ 100) : Met l yX0_canMake wsX0_canMake ({ frames := 0, cells := 0, slots := 0, locals := 0 }) (va_Pc [.ref d, .int (nI r)] (g_Pr G base (L, K, n, rI, rJ, rQ, fI, fR))) (g_Qi G base (fun _ : Unit => (L, K, n, rI, rJ, rQ, fI, fR)) (fun x _ => x = bi (decide (cnt < 250 ∧ g < 100)))) 0 0 (g_A base) := by
  have hD0 := hD
  obtain ⟨hLd, hKd, h0d, h1d, h2d, h3d, h4d, h5d, hLdr, hKdr, hndr, hLdn, hKdn, hndn, hLdk, hKdk, hndk, hLdp, hKdp, hndp, hLdv, hKdv, hndv, hLdg, hKdg, hndg⟩ := hD0
  refine Met.ofW (cc := cX0_canMake) (maxL := 2) (ret := (some .boolean)) (by decide) rfl ?_
  intro p e s m args below meth c s₁ B hml hv
  obtain ⟨rfl, hPr⟩ := hv
  have hx := B.exec
  have hb := B.bytes
  have hr := B.returns
  have hts := atoms_spec (ws := wsX0_canMake) B.pre
  have hown : s.vm.findClass RX0 = some m.cls := findClass_of_methodNamed B.named
  have hlocks := B.notSynchronized
  have hin : meth.name = "canMake" := (name_of_methodNamed B.named B.method).1
  have hK := hPr.2.2
  have hG := hPr.gw
  have hl := lv_entry ([.ref d, .int (nI r)]) (n := 2) (Nat.le_of_ble_eq_true rfl)
  rw [lg_entry_eq]
  generalize (lg_sl ([.ref d, .int (nI r)]) ++ List.replicate (2 - (lg_sl ([.ref d, .int (nI r)])).length) Slot.unset).toArray = ls at hl ⊢
  have hl : lv_has ls 2 [(0, .ref d), (1, .int (nI r))] := hl
  refine g_start hPr (fun H locs hG => ?_)
  refine lv_aload_n hx hb dX0_canMake_0 rfl (lv_at hl 0 rfl) ?_
  refine r_Dots_count hx hb hts (by decide +kernel) hown hK hG hLd hKd (hts (.fieldLink RX0 31 "DotStores$Dots" "count" "I") (by decide +kernel)) dX0_canMake_1 ?_
  refine lv_sipush (v := 250) hx hb dX0_canMake_4 (by decide) ?_
  refine lv_icmp_ge (tgt := 25) hx hb dX0_canMake_7 (by decide) (fun c1 => ?_) (fun c1 => ?_)
  · have hn : ¬ (cnt < 250 ∧ g < 100) := fun z => absurd c1 (by rw [hcnt]; exact nI_ge z.1 (by decide))
    refine lv_iconst (v := 0) hx hb dX0_canMake_25 (by decide) ?_
    refine W.widen (k := 0) (n := 0) (by omega) (by omega) ?_
    exact W.zret (v := 0) hx hb hr rfl (fun t ht hW => ⟨⟨0, (), rfl, (by rw [show decide (cnt < 250 ∧ g < 100) = false from decide_eq_false hn]; rfl), hG.at ht⟩, hG.2.2.1.F ht⟩) hG.2.2.1.2.2 dX0_canMake_26
  · have c1 : cnt < 250 := by
      rcases Nat.lt_or_ge cnt 250 with q | q
      · exact q
      · exact absurd (by rw [hcnt]; exact nI_le (a := 250) q (by omega)) c1
    refine lv_aload_n hx hb dX0_canMake_10 rfl (lv_at hl 0 rfl) ?_
    refine r_Dots_greatest hx hb hts (by decide +kernel) hown hK hG hLd hKd h5d (hts (.fieldLink RX0 28 "DotStores$Dots" "greatest" "[I") (by decide +kernel)) dX0_canMake_11 ?_
    refine lv_iload_n hx hb dX0_canMake_14 rfl (lv_at hl 1 rfl) ?_
    refine g_iald hx hb hK hG hLdg hKdg (r) rfl (by rw [hndg]; exact hr6) (by rw [hndg]; decide) dX0_canMake_15 ?_
    refine lv_bipush (v := 100) hx hb dX0_canMake_16 (by decide) ?_
    refine lv_icmp_ge (tgt := 25) hx hb dX0_canMake_18 (by decide) (fun c2 => ?_) (fun c2 => ?_)
    · have hn : ¬ (cnt < 250 ∧ g < 100) := fun z => absurd c2 (by rw [hg]; exact nI_ge z.2 (by decide))
      refine lv_iconst (v := 0) hx hb dX0_canMake_25 (by decide) ?_
      refine W.widen (k := 0) (n := 0) (by omega) (by omega) ?_
      exact W.zret (v := 0) hx hb hr rfl (fun t ht hW => ⟨⟨0, (), rfl, (by rw [show decide (cnt < 250 ∧ g < 100) = false from decide_eq_false hn]; rfl), hG.at ht⟩, hG.2.2.1.F ht⟩) hG.2.2.1.2.2 dX0_canMake_26
    · have c2 : g < 100 := by
        rcases Nat.lt_or_ge g 100 with q | q
        · exact q
        · exact absurd (by rw [hg]; exact nI_le (a := 100) q (by omega)) c2
      refine lv_iconst (v := 1) hx hb dX0_canMake_21 (by decide) ?_
      refine lv_goto (tgt := 26) hx hb dX0_canMake_22 (by decide) ?_
      refine W.widen (k := 0) (n := 0) (by omega) (by omega) ?_
      exact W.zret (v := 1) hx hb hr rfl (fun t ht hW => ⟨⟨1, (), rfl, (by rw [show decide (cnt < 250 ∧ g < 100) = true from decide_eq_true ⟨c1, c2⟩]; rfl), hG.at ht⟩, hG.2.2.1.F ht⟩) hG.2.2.1.2.2 dX0_canMake_26
set_option maxHeartbeats 4000000 in
set_option maxRecDepth 100000 in
/-- Dots.make(r, k, q, v) -/
theorem c_make (l : Launch) (G : gG) (base : Nat) {L : List Nat} {K n : Nat → Nat} {rI : Nat → Nat → Int32} {rJ : Nat → Nat → Int64} {rQ : Nat → Nat → Option Nat} {fI : Nat → Nat → Int32} {fR : Nat → Nat → Option Nat} {d dr dn dk dp dv dg : Nat} (hD : isDt L K n fR d dr dn dk dp dv dg) {r cnt : Nat} {k q : Int32} {v : Int64} (hr6 : r < 6) (hcnt : fI d 6 = nI cnt) (hc25 : cnt < 250) : Met l yX0_make wsX0_make ({ frames := 0, cells := 0, slots := 0, locals := 0 }) (va_Pc [.ref d, .int (nI r), .int k, .int q, .long v] (g_Pr G base (L, K, n, rI, rJ, rQ, fI, fR))) (g_Qi G base (fun _ : Unit => (L, K, n, (g_up ((g_up ((g_up ((g_up ((g_up (rI) dg (r) (((rI dg (r)) + 1)))) dr (cnt) ((nI r)))) dn (cnt) (((g_up ((g_up (rI) dg (r) (((rI dg (r)) + 1)))) dr (cnt) ((nI r))) dg (r))))) dk (cnt) (k))) dp (cnt) (q)), (g_up (rJ) dv (cnt) (v)), rQ, (g_up (fI) d 6 ((fI d 6) + 1)), fR)) (fun x _ => x = nI cnt)) 0 0 (g_A base) := by
  have hD0 := hD
  obtain ⟨hLd, hKd, h0d, h1d, h2d, h3d, h4d, h5d, hLdr, hKdr, hndr, hLdn, hKdn, hndn, hLdk, hKdk, hndk, hLdp, hKdp, hndp, hLdv, hKdv, hndv, hLdg, hKdg, hndg⟩ := hD0
  refine Met.ofW (cc := cX0_make) (maxL := 7) (ret := (some .int)) (by decide) rfl ?_
  intro p e s m args below meth c s₁ B hml hv
  obtain ⟨rfl, hPr⟩ := hv
  have hx := B.exec
  have hb := B.bytes
  have hr := B.returns
  have hts := atoms_spec (ws := wsX0_make) B.pre
  have hown : s.vm.findClass RX0 = some m.cls := findClass_of_methodNamed B.named
  have hlocks := B.notSynchronized
  have hin : meth.name = "make" := (name_of_methodNamed B.named B.method).1
  have hK := hPr.2.2
  have hG := hPr.gw
  have hl := lv_entry ([.ref d, .int (nI r), .int k, .int q, .long v]) (n := 7) (Nat.le_of_ble_eq_true rfl)
  rw [lg_entry_eq]
  generalize (lg_sl ([.ref d, .int (nI r), .int k, .int q, .long v]) ++ List.replicate (7 - (lg_sl ([.ref d, .int (nI r), .int k, .int q, .long v])).length) Slot.unset).toArray = ls at hl ⊢
  have hl : lv_has ls 7 [(0, .ref d), (1, .int (nI r)), (2, .int k), (3, .int q), (4, .long v)] := hl
  refine g_start hPr (fun H locs hG => ?_)
  refine lv_aload_n hx hb dX0_make_0 rfl (lv_at hl 0 rfl) ?_
  refine r_Dots_count hx hb hts (by decide +kernel) hown hK hG hLd hKd (hts (.fieldLink RX0 31 "DotStores$Dots" "count" "I") (by decide +kernel)) dX0_make_1 ?_
  refine lv_topi (fun z1 ez1 => ?_)
  obtain rfl : z1 = nI cnt := ez1.trans (hcnt)
  refine lv_istore (lv' := [(6, .int (nI cnt)), (0, .ref d), (1, .int (nI r)), (2, .int k), (3, .int q), (4, .long v)]) hx hb dX0_make_4 hl (by decide) rfl (fun ls hl => ?_)
  refine lv_aload_n hx hb dX0_make_6 rfl (lv_at hl 1 rfl) ?_
  refine r_Dots_greatest hx hb hts (by decide +kernel) hown hK hG hLd hKd h5d (hts (.fieldLink RX0 28 "DotStores$Dots" "greatest" "[I") (by decide +kernel)) dX0_make_7 ?_
  refine lv_iload_n hx hb dX0_make_10 rfl (lv_at hl 2 rfl) ?_
  refine lv_dup2_11 hx hb dX0_make_11 rfl rfl ?_
  refine g_iald hx hb hK hG hLdg hKdg (r) rfl (by rw [hndg]; exact hr6) (by rw [hndg]; decide) dX0_make_12 ?_
  refine lv_iconst (v := 1) hx hb dX0_make_13 (by decide) ?_
  refine lv_iadd hx hb dX0_make_14 ?_
  refine g_iast hx hb hK hG hLdg hKdg (r) rfl (by rw [hndg]; exact hr6) (by rw [hndg]; decide) dX0_make_15 (fun H locs hG => ?_)
  refine lv_aload_n hx hb dX0_make_16 rfl (lv_at hl 1 rfl) ?_
  refine r_Dots_replica hx hb hts (by decide +kernel) hown hK hG hLd hKd h0d (hts (.fieldLink RX0 9 "DotStores$Dots" "replica" "[I") (by decide +kernel)) dX0_make_17 ?_
  refine lv_iload hx hb dX0_make_20 (lv_at hl 0 rfl) ?_
  refine lv_iload_n hx hb dX0_make_22 rfl (lv_at hl 2 rfl) ?_
  refine g_iast hx hb hK hG hLdr hKdr (cnt) rfl (by rw [hndr]; exact hc25) (by rw [hndr]; decide) dX0_make_23 (fun H locs hG => ?_)
  refine lv_aload_n hx hb dX0_make_24 rfl (lv_at hl 1 rfl) ?_
  refine r_Dots_number hx hb hts (by decide +kernel) hown hK hG hLd hKd h1d (hts (.fieldLink RX0 15 "DotStores$Dots" "number" "[I") (by decide +kernel)) dX0_make_25 ?_
  refine lv_iload hx hb dX0_make_28 (lv_at hl 0 rfl) ?_
  refine lv_aload_n hx hb dX0_make_30 rfl (lv_at hl 1 rfl) ?_
  refine r_Dots_greatest hx hb hts (by decide +kernel) hown hK hG hLd hKd h5d (hts (.fieldLink RX0 28 "DotStores$Dots" "greatest" "[I") (by decide +kernel)) dX0_make_31 ?_
  refine lv_iload_n hx hb dX0_make_34 rfl (lv_at hl 2 rfl) ?_
  refine g_iald hx hb hK hG hLdg hKdg (r) rfl (by rw [hndg]; exact hr6) (by rw [hndg]; decide) dX0_make_35 ?_
  refine g_iast hx hb hK hG hLdn hKdn (cnt) rfl (by rw [hndn]; exact hc25) (by rw [hndn]; decide) dX0_make_36 (fun H locs hG => ?_)
  refine lv_aload_n hx hb dX0_make_37 rfl (lv_at hl 1 rfl) ?_
  refine r_Dots_key hx hb hts (by decide +kernel) hown hK hG hLd hKd h2d (hts (.fieldLink RX0 18 "DotStores$Dots" "key" "[I") (by decide +kernel)) dX0_make_38 ?_
  refine lv_iload hx hb dX0_make_41 (lv_at hl 0 rfl) ?_
  refine lv_iload_n hx hb dX0_make_43 rfl (lv_at hl 3 rfl) ?_
  refine g_iast hx hb hK hG hLdk hKdk (cnt) rfl (by rw [hndk]; exact hc25) (by rw [hndk]; decide) dX0_make_44 (fun H locs hG => ?_)
  refine lv_aload_n hx hb dX0_make_45 rfl (lv_at hl 1 rfl) ?_
  refine r_Dots_part hx hb hts (by decide +kernel) hown hK hG hLd hKd h3d (hts (.fieldLink RX0 21 "DotStores$Dots" "part" "[I") (by decide +kernel)) dX0_make_46 ?_
  refine lv_iload hx hb dX0_make_49 (lv_at hl 0 rfl) ?_
  refine lv_iload_n hx hb dX0_make_51 rfl (lv_at hl 4 rfl) ?_
  refine g_iast hx hb hK hG hLdp hKdp (cnt) rfl (by rw [hndp]; exact hc25) (by rw [hndp]; decide) dX0_make_52 (fun H locs hG => ?_)
  refine lv_aload_n hx hb dX0_make_53 rfl (lv_at hl 1 rfl) ?_
  refine r_Dots_value hx hb hts (by decide +kernel) hown hK hG hLd hKd h4d (hts (.fieldLink RX0 24 "DotStores$Dots" "value" "[J") (by decide +kernel)) dX0_make_54 ?_
  refine lv_iload hx hb dX0_make_57 (lv_at hl 0 rfl) ?_
  refine lv_lload hx hb dX0_make_59 (lv_at hl 5 rfl) ?_
  refine g_last hx hb hK hG hLdv hKdv (cnt) rfl (by rw [hndv]; exact hc25) (by rw [hndv]; decide) dX0_make_61 (fun H locs hG => ?_)
  refine lv_aload_n hx hb dX0_make_62 rfl (lv_at hl 1 rfl) ?_
  refine lv_dup hx hb dX0_make_63 rfl ?_
  refine r_Dots_count hx hb hts (by decide +kernel) hown hK hG hLd hKd (hts (.fieldLink RX0 31 "DotStores$Dots" "count" "I") (by decide +kernel)) dX0_make_64 ?_
  refine lv_iconst (v := 1) hx hb dX0_make_67 (by decide) ?_
  refine lv_iadd hx hb dX0_make_68 ?_
  refine w_Dots_count hx hb hts (by decide +kernel) hown hK hG hLd hKd (hts (.fieldLink RX0 31 "DotStores$Dots" "count" "I") (by decide +kernel)) dX0_make_69 (fun H locs hG => ?_)
  refine lv_iload hx hb dX0_make_72 (lv_at hl 0 rfl) ?_
  refine W.widen (k := 0) (n := 0) (by omega) (by omega) ?_
  exact W.iret (v := (nI cnt)) hx hb hr (fun t ht hW => ⟨⟨(nI cnt), (), rfl, rfl, hG.at ht⟩, hG.2.2.1.F ht⟩) hG.2.2.1.2.2 dX0_make_74
set_option maxHeartbeats 4000000 in
set_option maxRecDepth 100000 in
/-- Dots.fits(i, k, q, r) -/
theorem c_fits (l : Launch) (G : gG) (base : Nat) {L : List Nat} {K n : Nat → Nat} {rI : Nat → Nat → Int32} {rJ : Nat → Nat → Int64} {rQ : Nat → Nat → Option Nat} {fI : Nat → Nat → Int32} {fR : Nat → Nat → Option Nat} {d dr dn dk dp dv dg : Nat} (hD : isDt L K n fR d dr dn dk dp dv dg) {i : Nat} {k q r : Int32} (hi : i < 250) : Met l yX0_fits wsX0_fits ({ frames := 0, cells := 0, slots := 0, locals := 0 }) (va_Pc [.ref d, .int (nI i), .int k, .int q, .int r] (g_Pr G base (L, K, n, rI, rJ, rQ, fI, fR))) (g_Qi G base (fun _ : Unit => (L, K, n, rI, rJ, rQ, fI, fR)) (fun x _ => x = bi (decide (rI dk i = k ∧ (q = -1 ∨ rI dp i = q) ∧ (r = -1 ∨ rI dr i = r))))) 0 0 (g_A base) := by
  have hD0 := hD
  obtain ⟨hLd, hKd, h0d, h1d, h2d, h3d, h4d, h5d, hLdr, hKdr, hndr, hLdn, hKdn, hndn, hLdk, hKdk, hndk, hLdp, hKdp, hndp, hLdv, hKdv, hndv, hLdg, hKdg, hndg⟩ := hD0
  refine Met.ofW (cc := cX0_fits) (maxL := 5) (ret := (some .boolean)) (by decide) rfl ?_
  intro p e s m args below meth c s₁ B hml hv
  obtain ⟨rfl, hPr⟩ := hv
  have hx := B.exec
  have hb := B.bytes
  have hr := B.returns
  have hts := atoms_spec (ws := wsX0_fits) B.pre
  have hown : s.vm.findClass RX0 = some m.cls := findClass_of_methodNamed B.named
  have hlocks := B.notSynchronized
  have hin : meth.name = "fits" := (name_of_methodNamed B.named B.method).1
  have hK := hPr.2.2
  have hG := hPr.gw
  have hl := lv_entry ([.ref d, .int (nI i), .int k, .int q, .int r]) (n := 5) (Nat.le_of_ble_eq_true rfl)
  rw [lg_entry_eq]
  generalize (lg_sl ([.ref d, .int (nI i), .int k, .int q, .int r]) ++ List.replicate (5 - (lg_sl ([.ref d, .int (nI i), .int k, .int q, .int r])).length) Slot.unset).toArray = ls at hl ⊢
  have hl : lv_has ls 5 [(0, .ref d), (1, .int (nI i)), (2, .int k), (3, .int q), (4, .int r)] := hl
  refine g_start hPr (fun H locs hG => ?_)
  refine lv_aload_n hx hb dX0_fits_0 rfl (lv_at hl 0 rfl) ?_
  refine r_Dots_key hx hb hts (by decide +kernel) hown hK hG hLd hKd h2d (hts (.fieldLink RX0 18 "DotStores$Dots" "key" "[I") (by decide +kernel)) dX0_fits_1 ?_
  refine lv_iload_n hx hb dX0_fits_4 rfl (lv_at hl 1 rfl) ?_
  refine g_iald hx hb hK hG hLdk hKdk (i) rfl (by rw [hndk]; exact hi) (by rw [hndk]; decide) dX0_fits_5 ?_
  refine lv_iload_n hx hb dX0_fits_6 rfl (lv_at hl 2 rfl) ?_
  refine lv_icmp_ne (tgt := 46) hx hb dX0_fits_7 (by decide) (fun c1 => ?_) (fun c1 => ?_)
  · have hn : ¬ (rI dk i = k ∧ (q = -1 ∨ rI dp i = q) ∧ (r = -1 ∨ rI dr i = r)) := fun z => c1 z.1
    refine lv_iconst (v := 0) hx hb dX0_fits_46 (by decide) ?_
    refine W.widen (k := 0) (n := 0) (by omega) (by omega) ?_
    exact W.zret (v := 0) hx hb hr rfl (fun t ht hW => ⟨⟨0, (), rfl, (by rw [show decide (rI dk i = k ∧ (q = -1 ∨ rI dp i = q) ∧ (r = -1 ∨ rI dr i = r)) = false from decide_eq_false hn]; rfl), hG.at ht⟩, hG.2.2.1.F ht⟩) hG.2.2.1.2.2 dX0_fits_47
  · refine lv_iload_n hx hb dX0_fits_10 rfl (lv_at hl 3 rfl) ?_
    refine lv_iconst (v := (-1)) hx hb dX0_fits_11 (by decide) ?_
    refine lv_icmp_eq (tgt := 25) hx hb dX0_fits_12 (by decide) (fun c2 => ?_) (fun c2 => ?_)
    · have hq : q = -1 ∨ rI dp i = q := Or.inl c2
      refine lv_iload hx hb dX0_fits_25 (lv_at hl 4 rfl) ?_
      refine lv_iconst (v := (-1)) hx hb dX0_fits_27 (by decide) ?_
      refine lv_icmp_eq (tgt := 42) hx hb dX0_fits_28 (by decide) (fun c4 => ?_) (fun c4 => ?_)
      · have hr2 : r = -1 ∨ rI dr i = r := Or.inl c4
        refine lv_iconst (v := 1) hx hb dX0_fits_42 (by decide) ?_
        refine lv_goto (tgt := 47) hx hb dX0_fits_43 (by decide) ?_
        refine W.widen (k := 0) (n := 0) (by omega) (by omega) ?_
        exact W.zret (v := 1) hx hb hr rfl (fun t ht hW => ⟨⟨1, (), rfl, (by rw [show decide (rI dk i = k ∧ (q = -1 ∨ rI dp i = q) ∧ (r = -1 ∨ rI dr i = r)) = true from decide_eq_true ⟨c1, hq, hr2⟩]; rfl), hG.at ht⟩, hG.2.2.1.F ht⟩) hG.2.2.1.2.2 dX0_fits_47
      · refine lv_aload_n hx hb dX0_fits_31 rfl (lv_at hl 0 rfl) ?_
        refine r_Dots_replica hx hb hts (by decide +kernel) hown hK hG hLd hKd h0d (hts (.fieldLink RX0 9 "DotStores$Dots" "replica" "[I") (by decide +kernel)) dX0_fits_32 ?_
        refine lv_iload_n hx hb dX0_fits_35 rfl (lv_at hl 1 rfl) ?_
        refine g_iald hx hb hK hG hLdr hKdr (i) rfl (by rw [hndr]; exact hi) (by rw [hndr]; decide) dX0_fits_36 ?_
        refine lv_iload hx hb dX0_fits_37 (lv_at hl 4 rfl) ?_
        refine lv_icmp_ne (tgt := 46) hx hb dX0_fits_39 (by decide) (fun c5 => ?_) (fun c5 => ?_)
        · have hn : ¬ (rI dk i = k ∧ (q = -1 ∨ rI dp i = q) ∧ (r = -1 ∨ rI dr i = r)) := fun z => z.2.2.elim c4 c5
          refine lv_iconst (v := 0) hx hb dX0_fits_46 (by decide) ?_
          refine W.widen (k := 0) (n := 0) (by omega) (by omega) ?_
          exact W.zret (v := 0) hx hb hr rfl (fun t ht hW => ⟨⟨0, (), rfl, (by rw [show decide (rI dk i = k ∧ (q = -1 ∨ rI dp i = q) ∧ (r = -1 ∨ rI dr i = r)) = false from decide_eq_false hn]; rfl), hG.at ht⟩, hG.2.2.1.F ht⟩) hG.2.2.1.2.2 dX0_fits_47
        · have hr2 : r = -1 ∨ rI dr i = r := Or.inr c5
          refine lv_iconst (v := 1) hx hb dX0_fits_42 (by decide) ?_
          refine lv_goto (tgt := 47) hx hb dX0_fits_43 (by decide) ?_
          refine W.widen (k := 0) (n := 0) (by omega) (by omega) ?_
          exact W.zret (v := 1) hx hb hr rfl (fun t ht hW => ⟨⟨1, (), rfl, (by rw [show decide (rI dk i = k ∧ (q = -1 ∨ rI dp i = q) ∧ (r = -1 ∨ rI dr i = r)) = true from decide_eq_true ⟨c1, hq, hr2⟩]; rfl), hG.at ht⟩, hG.2.2.1.F ht⟩) hG.2.2.1.2.2 dX0_fits_47
    · refine lv_aload_n hx hb dX0_fits_15 rfl (lv_at hl 0 rfl) ?_
      refine r_Dots_part hx hb hts (by decide +kernel) hown hK hG hLd hKd h3d (hts (.fieldLink RX0 21 "DotStores$Dots" "part" "[I") (by decide +kernel)) dX0_fits_16 ?_
      refine lv_iload_n hx hb dX0_fits_19 rfl (lv_at hl 1 rfl) ?_
      refine g_iald hx hb hK hG hLdp hKdp (i) rfl (by rw [hndp]; exact hi) (by rw [hndp]; decide) dX0_fits_20 ?_
      refine lv_iload_n hx hb dX0_fits_21 rfl (lv_at hl 3 rfl) ?_
      refine lv_icmp_ne (tgt := 46) hx hb dX0_fits_22 (by decide) (fun c3 => ?_) (fun c3 => ?_)
      · have hn : ¬ (rI dk i = k ∧ (q = -1 ∨ rI dp i = q) ∧ (r = -1 ∨ rI dr i = r)) := fun z => z.2.1.elim c2 c3
        refine lv_iconst (v := 0) hx hb dX0_fits_46 (by decide) ?_
        refine W.widen (k := 0) (n := 0) (by omega) (by omega) ?_
        exact W.zret (v := 0) hx hb hr rfl (fun t ht hW => ⟨⟨0, (), rfl, (by rw [show decide (rI dk i = k ∧ (q = -1 ∨ rI dp i = q) ∧ (r = -1 ∨ rI dr i = r)) = false from decide_eq_false hn]; rfl), hG.at ht⟩, hG.2.2.1.F ht⟩) hG.2.2.1.2.2 dX0_fits_47
      · have hq : q = -1 ∨ rI dp i = q := Or.inr c3
        refine lv_iload hx hb dX0_fits_25 (lv_at hl 4 rfl) ?_
        refine lv_iconst (v := (-1)) hx hb dX0_fits_27 (by decide) ?_
        refine lv_icmp_eq (tgt := 42) hx hb dX0_fits_28 (by decide) (fun c4 => ?_) (fun c4 => ?_)
        · have hr2 : r = -1 ∨ rI dr i = r := Or.inl c4
          refine lv_iconst (v := 1) hx hb dX0_fits_42 (by decide) ?_
          refine lv_goto (tgt := 47) hx hb dX0_fits_43 (by decide) ?_
          refine W.widen (k := 0) (n := 0) (by omega) (by omega) ?_
          exact W.zret (v := 1) hx hb hr rfl (fun t ht hW => ⟨⟨1, (), rfl, (by rw [show decide (rI dk i = k ∧ (q = -1 ∨ rI dp i = q) ∧ (r = -1 ∨ rI dr i = r)) = true from decide_eq_true ⟨c1, hq, hr2⟩]; rfl), hG.at ht⟩, hG.2.2.1.F ht⟩) hG.2.2.1.2.2 dX0_fits_47
        · refine lv_aload_n hx hb dX0_fits_31 rfl (lv_at hl 0 rfl) ?_
          refine r_Dots_replica hx hb hts (by decide +kernel) hown hK hG hLd hKd h0d (hts (.fieldLink RX0 9 "DotStores$Dots" "replica" "[I") (by decide +kernel)) dX0_fits_32 ?_
          refine lv_iload_n hx hb dX0_fits_35 rfl (lv_at hl 1 rfl) ?_
          refine g_iald hx hb hK hG hLdr hKdr (i) rfl (by rw [hndr]; exact hi) (by rw [hndr]; decide) dX0_fits_36 ?_
          refine lv_iload hx hb dX0_fits_37 (lv_at hl 4 rfl) ?_
          refine lv_icmp_ne (tgt := 46) hx hb dX0_fits_39 (by decide) (fun c5 => ?_) (fun c5 => ?_)
          · have hn : ¬ (rI dk i = k ∧ (q = -1 ∨ rI dp i = q) ∧ (r = -1 ∨ rI dr i = r)) := fun z => z.2.2.elim c4 c5
            refine lv_iconst (v := 0) hx hb dX0_fits_46 (by decide) ?_
            refine W.widen (k := 0) (n := 0) (by omega) (by omega) ?_
            exact W.zret (v := 0) hx hb hr rfl (fun t ht hW => ⟨⟨0, (), rfl, (by rw [show decide (rI dk i = k ∧ (q = -1 ∨ rI dp i = q) ∧ (r = -1 ∨ rI dr i = r)) = false from decide_eq_false hn]; rfl), hG.at ht⟩, hG.2.2.1.F ht⟩) hG.2.2.1.2.2 dX0_fits_47
          · have hr2 : r = -1 ∨ rI dr i = r := Or.inr c5
            refine lv_iconst (v := 1) hx hb dX0_fits_42 (by decide) ?_
            refine lv_goto (tgt := 47) hx hb dX0_fits_43 (by decide) ?_
            refine W.widen (k := 0) (n := 0) (by omega) (by omega) ?_
            exact W.zret (v := 1) hx hb hr rfl (fun t ht hW => ⟨⟨1, (), rfl, (by rw [show decide (rI dk i = k ∧ (q = -1 ∨ rI dp i = q) ∧ (r = -1 ∨ rI dr i = r)) = true from decide_eq_true ⟨c1, hq, hr2⟩]; rfl), hG.at ht⟩, hG.2.2.1.F ht⟩) hG.2.2.1.2.2 dX0_fits_47
end

theorem inF : ∀ w ∈ u_ws RF TF 8, w ∈ GW := by
  intro w h
  obtain ⟨k, hk, rfl⟩ := List.mem_map.mp h
  have hk := List.mem_range.mp hk
  match k, hk with
  | 0, _ => exact gw166
  | 1, _ => exact gw168
  | 2, _ => exact gw170
  | 3, _ => exact gw172
  | 4, _ => exact gw174
  | 5, _ => exact gw176
  | 6, _ => exact gw178
  | 7, _ => exact gw180
  | k + 8, hk => exact absurd hk (by omega)
theorem inK : ∀ w ∈ u_ws RK TK 2, w ∈ GW := by
  intro w h
  obtain ⟨k, hk, rfl⟩ := List.mem_map.mp h
  have hk := List.mem_range.mp hk
  match k, hk with
  | 0, _ => exact gw45
  | 1, _ => exact gw47
  | k + 2, hk => exact absurd hk (by omega)
theorem inR : ∀ w ∈ u_ws RR TR 4, w ∈ GW := by
  intro w h
  obtain ⟨k, hk, rfl⟩ := List.mem_map.mp h
  have hk := List.mem_range.mp hk
  match k, hk with
  | 0, _ => exact gw108
  | 1, _ => exact gw110
  | 2, _ => exact gw112
  | 3, _ => exact gw114
  | k + 4, hk => exact absurd hk (by omega)
theorem inS : ∀ w ∈ u_ws RS TS 6, w ∈ GW := by
  intro w h
  obtain ⟨k, hk, rfl⟩ := List.mem_map.mp h
  have hk := List.mem_range.mp hk
  match k, hk with
  | 0, _ => exact gw137
  | 1, _ => exact gw139
  | 2, _ => exact gw141
  | 3, _ => exact gw143
  | 4, _ => exact gw145
  | 5, _ => exact gw147
  | k + 6, hk => exact absurd hk (by omega)
theorem inW : ∀ w ∈ u_ws RW TW 11, w ∈ GW := by
  intro w h
  obtain ⟨k, hk, rfl⟩ := List.mem_map.mp h
  have hk := List.mem_range.mp hk
  match k, hk with
  | 0, _ => exact gw66
  | 1, _ => exact gw68
  | 2, _ => exact gw70
  | 3, _ => exact gw72
  | 4, _ => exact gw74
  | 5, _ => exact gw76
  | 6, _ => exact gw78
  | 7, _ => exact gw80
  | 8, _ => exact gw82
  | 9, _ => exact gw84
  | 10, _ => exact gw86
  | k + 11, hk => exact absurd hk (by omega)
theorem inC : ∀ w ∈ u_ws RC TC 3, w ∈ GW := by
  intro w h
  obtain ⟨k, hk, rfl⟩ := List.mem_map.mp h
  have hk := List.mem_range.mp hk
  match k, hk with
  | 0, _ => exact gw186
  | 1, _ => exact gw188
  | 2, _ => exact gw190
  | k + 3, hk => exact absurd hk (by omega)
theorem inM : ∀ w ∈ u_ws RM TM 29, w ∈ GW := by
  intro w h
  obtain ⟨k, hk, rfl⟩ := List.mem_map.mp h
  have hk := List.mem_range.mp hk
  match k, hk with
  | 0, _ => exact gw622
  | 1, _ => exact gw624
  | 2, _ => exact gw626
  | 3, _ => exact gw628
  | 4, _ => exact gw630
  | 5, _ => exact gw632
  | 6, _ => exact gw634
  | 7, _ => exact gw636
  | 8, _ => exact gw638
  | 9, _ => exact gw640
  | 10, _ => exact gw642
  | 11, _ => exact gw644
  | 12, _ => exact gw646
  | 13, _ => exact gw648
  | 14, _ => exact gw650
  | 15, _ => exact gw652
  | 16, _ => exact gw654
  | 17, _ => exact gw656
  | 18, _ => exact gw658
  | 19, _ => exact gw660
  | 20, _ => exact gw662
  | 21, _ => exact gw664
  | 22, _ => exact gw666
  | 23, _ => exact gw668
  | 24, _ => exact gw670
  | 25, _ => exact gw672
  | 26, _ => exact gw674
  | 27, _ => exact gw676
  | 28, _ => exact gw678
  | k + 29, hk => exact absurd hk (by omega)
def isNx : Cond → Bool
  | .fieldLinkNest .. => true
  | .methodLinkNest .. => true
  | _ => false
def NXW : List Cond := tables_1.filter isNx
theorem nx_at {w : Cond} (i : Nat) (h : tables_1[i]? = some w) (hg : isNx w = true) : w ∈ NXW := List.mem_filter.mpr ⟨List.mem_of_getElem? h, hg⟩
def Nx (U : State) : Prop := ∀ w ∈ NXW, va_Nw w U
theorem Nx.warm {s U : State} (hW : s.WarmedH U.vm) (h : Nx s) : Nx U := fun w hw => by
  have h1 := h w hw
  have h2 := (List.mem_filter.mp hw).2
  cases w with
  | fieldLinkNest => exact va_Nw.warmF hW h1
  | methodLinkNest => exact va_Nw.warmM hW h1
  | _ => cases h2
theorem Nx.same {u U : State} (h : u.vm = U.vm) (hN : Nx u) : Nx U := fun w hw => by
  have h1 := hN w hw
  have h2 := (List.mem_filter.mp hw).2
  cases w with
  | fieldLinkNest => exact va_Nw.same rfl h h1
  | methodLinkNest => exact va_Nw.same rfl h h1
  | _ => cases h2
theorem nx31 : (Jvm.Cond.methodLinkNest "LiquidChecker" (17 : Nat) ({ cls := "LiquidChecker$Walk", name := "<init>", desc := "()V" } : Jvm.MethodName) "LiquidChecker") ∈ NXW := nx_at 31 (by decide +kernel) (by decide +kernel)
theorem nx37 : (Jvm.Cond.methodLinkNest "LiquidChecker$Walk" (11 : Nat) ({ cls := "LiquidChecker$Known", name := "<init>", desc := "()V" } : Jvm.MethodName) "LiquidChecker") ∈ NXW := nx_at 37 (by decide +kernel) (by decide +kernel)
theorem nx43 : (Jvm.Cond.fieldLinkNest "LiquidChecker$Walk" (67 : Nat) "LiquidChecker$Known" "possible" "Z" "LiquidChecker") ∈ NXW := nx_at 43 (by decide +kernel) (by decide +kernel)
theorem nx44 : (Jvm.Cond.fieldLinkNest "LiquidChecker" (149 : Nat) "LiquidChecker$Known" "possible" "Z" "LiquidChecker") ∈ NXW := nx_at 44 (by decide +kernel) (by decide +kernel)
theorem nx60 : (Jvm.Cond.fieldLinkNest "LiquidChecker" (133 : Nat) "LiquidChecker$Walk" "greatest" "I" "LiquidChecker") ∈ NXW := nx_at 60 (by decide +kernel) (by decide +kernel)
theorem nx63 : (Jvm.Cond.fieldLinkNest "LiquidChecker" (108 : Nat) "LiquidChecker$Walk" "leastUnshown" "I" "LiquidChecker") ∈ NXW := nx_at 63 (by decide +kernel) (by decide +kernel)
theorem nx65 : (Jvm.Cond.fieldLinkNest "LiquidChecker" (111 : Nat) "LiquidChecker$Walk" "ended" "I" "LiquidChecker") ∈ NXW := nx_at 65 (by decide +kernel) (by decide +kernel)
theorem nx90 : (Jvm.Cond.methodLinkNest "LiquidChecker" (24 : Nat) ({ cls := "LiquidChecker$Known", name := "<init>", desc := "()V" } : Jvm.MethodName) "LiquidChecker") ∈ NXW := nx_at 90 (by decide +kernel) (by decide +kernel)
theorem nx92 : (Jvm.Cond.methodLinkNest "LiquidChecker" (29 : Nat) ({ cls := "LiquidChecker$Function", name := "<init>", desc := "()V" } : Jvm.MethodName) "LiquidChecker") ∈ NXW := nx_at 92 (by decide +kernel) (by decide +kernel)
theorem nx98 : (Jvm.Cond.methodLinkNest "LiquidChecker$Function" (11 : Nat) ({ cls := "LiquidChecker$Relations", name := "<init>", desc := "()V" } : Jvm.MethodName) "LiquidChecker") ∈ NXW := nx_at 98 (by decide +kernel) (by decide +kernel)
theorem nx106 : (Jvm.Cond.fieldLinkNest "LiquidChecker$Function" (32 : Nat) "LiquidChecker$Relations" "size" "I" "LiquidChecker") ∈ NXW := nx_at 106 (by decide +kernel) (by decide +kernel)
theorem nx107 : (Jvm.Cond.fieldLinkNest "LiquidChecker" (57 : Nat) "LiquidChecker$Relations" "size" "I" "LiquidChecker") ∈ NXW := nx_at 107 (by decide +kernel) (by decide +kernel)
theorem nx120 : (Jvm.Cond.methodLinkNest "LiquidChecker$Function" (31 : Nat) ({ cls := "LiquidChecker$Statement", name := "<init>", desc := "()V" } : Jvm.MethodName) "LiquidChecker") ∈ NXW := nx_at 120 (by decide +kernel) (by decide +kernel)
theorem nx125 : (Jvm.Cond.fieldLinkNest "LiquidChecker$Function" (59 : Nat) "LiquidChecker$Statement" "kind" "I" "LiquidChecker") ∈ NXW := nx_at 125 (by decide +kernel) (by decide +kernel)
theorem nx126 : (Jvm.Cond.fieldLinkNest "LiquidChecker$Walk" (111 : Nat) "LiquidChecker$Statement" "kind" "I" "LiquidChecker") ∈ NXW := nx_at 126 (by decide +kernel) (by decide +kernel)
theorem nx128 : (Jvm.Cond.fieldLinkNest "LiquidChecker$Walk" (116 : Nat) "LiquidChecker$Statement" "a" "I" "LiquidChecker") ∈ NXW := nx_at 128 (by decide +kernel) (by decide +kernel)
theorem nx130 : (Jvm.Cond.fieldLinkNest "LiquidChecker$Walk" (119 : Nat) "LiquidChecker$Statement" "b" "I" "LiquidChecker") ∈ NXW := nx_at 130 (by decide +kernel) (by decide +kernel)
theorem nx132 : (Jvm.Cond.fieldLinkNest "LiquidChecker$Walk" (155 : Nat) "LiquidChecker$Statement" "c" "I" "LiquidChecker") ∈ NXW := nx_at 132 (by decide +kernel) (by decide +kernel)
theorem nx134 : (Jvm.Cond.fieldLinkNest "LiquidChecker$Walk" (122 : Nat) "LiquidChecker$Statement" "k" "I" "LiquidChecker") ∈ NXW := nx_at 134 (by decide +kernel) (by decide +kernel)
theorem nx136 : (Jvm.Cond.fieldLinkNest "LiquidChecker$Function" (79 : Nat) "LiquidChecker$Statement" "leadsTo" "I" "LiquidChecker") ∈ NXW := nx_at 136 (by decide +kernel) (by decide +kernel)
theorem nx151 : (Jvm.Cond.fieldLinkNest "LiquidChecker" (50 : Nat) "LiquidChecker$Function" "demands" "LLiquidChecker$Relations;" "LiquidChecker") ∈ NXW := nx_at 151 (by decide +kernel) (by decide +kernel)
theorem nx152 : (Jvm.Cond.fieldLinkNest "LiquidChecker$Walk" (55 : Nat) "LiquidChecker$Function" "demands" "LLiquidChecker$Relations;" "LiquidChecker") ∈ NXW := nx_at 152 (by decide +kernel) (by decide +kernel)
theorem nx154 : (Jvm.Cond.fieldLinkNest "LiquidChecker" (54 : Nat) "LiquidChecker$Function" "promises" "LLiquidChecker$Relations;" "LiquidChecker") ∈ NXW := nx_at 154 (by decide +kernel) (by decide +kernel)
theorem nx155 : (Jvm.Cond.fieldLinkNest "LiquidChecker$Walk" (162 : Nat) "LiquidChecker$Function" "promises" "LLiquidChecker$Relations;" "LiquidChecker") ∈ NXW := nx_at 155 (by decide +kernel) (by decide +kernel)
theorem nx157 : (Jvm.Cond.fieldLinkNest "LiquidChecker$Walk" (107 : Nat) "LiquidChecker$Function" "statements" "[LLiquidChecker$Statement;" "LiquidChecker") ∈ NXW := nx_at 157 (by decide +kernel) (by decide +kernel)
theorem nx160 : (Jvm.Cond.fieldLinkNest "LiquidChecker" (100 : Nat) "LiquidChecker$Function" "size" "I" "LiquidChecker") ∈ NXW := nx_at 160 (by decide +kernel) (by decide +kernel)
theorem nx161 : (Jvm.Cond.fieldLinkNest "LiquidChecker$Walk" (87 : Nat) "LiquidChecker$Function" "size" "I" "LiquidChecker") ∈ NXW := nx_at 161 (by decide +kernel) (by decide +kernel)
theorem nx163 : (Jvm.Cond.fieldLinkNest "LiquidChecker" (159 : Nat) "LiquidChecker$Function" "openIfs" "I" "LiquidChecker") ∈ NXW := nx_at 163 (by decide +kernel) (by decide +kernel)
theorem nx298 : (Jvm.Cond.methodLinkNest "LiquidChecker" (68 : Nat) ({ cls := "LiquidChecker$Relations", name := "append", desc := "(III)I" } : Jvm.MethodName) "LiquidChecker") ∈ NXW := nx_at 298 (by decide +kernel) (by decide +kernel)
theorem nx332 : (Jvm.Cond.methodLinkNest "LiquidChecker" (78 : Nat) ({ cls := "LiquidChecker$Function", name := "hasGivenWhatIsUsed", desc := "(IIII)Z" } : Jvm.MethodName) "LiquidChecker") ∈ NXW := nx_at 332 (by decide +kernel) (by decide +kernel)
theorem nx336 : (Jvm.Cond.methodLinkNest "LiquidChecker$Function" (46 : Nat) ({ cls := "LiquidChecker", name := "usesA", desc := "(I)Z" } : Jvm.MethodName) "LiquidChecker") ∈ NXW := nx_at 336 (by decide +kernel) (by decide +kernel)
theorem nx341 : (Jvm.Cond.methodLinkNest "LiquidChecker$Function" (53 : Nat) ({ cls := "LiquidChecker", name := "usesB", desc := "(I)Z" } : Jvm.MethodName) "LiquidChecker") ∈ NXW := nx_at 341 (by decide +kernel) (by decide +kernel)
theorem nx342 : (Jvm.Cond.methodLinkNest "LiquidChecker$Function" (56 : Nat) ({ cls := "LiquidChecker", name := "usesC", desc := "(I)Z" } : Jvm.MethodName) "LiquidChecker") ∈ NXW := nx_at 342 (by decide +kernel) (by decide +kernel)
theorem nx343 : (Jvm.Cond.methodLinkNest "LiquidChecker" (82 : Nat) ({ cls := "LiquidChecker$Function", name := "isOpenFor", desc := "(I)Z" } : Jvm.MethodName) "LiquidChecker") ∈ NXW := nx_at 343 (by decide +kernel) (by decide +kernel)
theorem nx363 : (Jvm.Cond.methodLinkNest "LiquidChecker" (90 : Nat) ({ cls := "LiquidChecker$Function", name := "hasRoomFor", desc := "(I)Z" } : Jvm.MethodName) "LiquidChecker") ∈ NXW := nx_at 363 (by decide +kernel) (by decide +kernel)
theorem nx368 : (Jvm.Cond.methodLinkNest "LiquidChecker" (95 : Nat) ({ cls := "LiquidChecker$Function", name := "append", desc := "(IIIII)I" } : Jvm.MethodName) "LiquidChecker") ∈ NXW := nx_at 368 (by decide +kernel) (by decide +kernel)
theorem nx372 : (Jvm.Cond.methodLinkNest "LiquidChecker$Function" (62 : Nat) ({ cls := "LiquidChecker$Statement", name := "write", desc := "(IIIII)V" } : Jvm.MethodName) "LiquidChecker") ∈ NXW := nx_at 372 (by decide +kernel) (by decide +kernel)
theorem nx376 : (Jvm.Cond.methodLinkNest "LiquidChecker$Function" (66 : Nat) ({ cls := "LiquidChecker", name := "givesA", desc := "(I)Z" } : Jvm.MethodName) "LiquidChecker") ∈ NXW := nx_at 376 (by decide +kernel) (by decide +kernel)
theorem nx397 : (Jvm.Cond.methodLinkNest "LiquidChecker" (101 : Nat) ({ cls := "LiquidChecker$Function", name := "empty", desc := "()V" } : Jvm.MethodName) "LiquidChecker") ∈ NXW := nx_at 397 (by decide +kernel) (by decide +kernel)
theorem nx408 : (Jvm.Cond.methodLinkNest "LiquidChecker" (104 : Nat) ({ cls := "LiquidChecker$Walk", name := "through", desc := "([LLiquidChecker$Function;LLiquidChecker$Function;III)V" } : Jvm.MethodName) "LiquidChecker") ∈ NXW := nx_at 408 (by decide +kernel) (by decide +kernel)
theorem nx413 : (Jvm.Cond.methodLinkNest "LiquidChecker$Walk" (52 : Nat) ({ cls := "LiquidChecker$Known", name := "forgetAll", desc := "()V" } : Jvm.MethodName) "LiquidChecker") ∈ NXW := nx_at 413 (by decide +kernel) (by decide +kernel)
theorem nx421 : (Jvm.Cond.methodLinkNest "LiquidChecker$Walk" (61 : Nat) ({ cls := "LiquidChecker$Relations", name := "learnedBy", desc := "(LLiquidChecker$Known;II)V" } : Jvm.MethodName) "LiquidChecker") ∈ NXW := nx_at 421 (by decide +kernel) (by decide +kernel)
theorem nx428 : (Jvm.Cond.methodLinkNest "LiquidChecker$Relations" (29 : Nat) ({ cls := "LiquidChecker$Known", name := "learn", desc := "(III)V" } : Jvm.MethodName) "LiquidChecker") ∈ NXW := nx_at 428 (by decide +kernel) (by decide +kernel)
theorem nx440 : (Jvm.Cond.methodLinkNest "LiquidChecker$Walk" (98 : Nat) ({ cls := "LiquidChecker$Known", name := "bound", desc := "(II)I" } : Jvm.MethodName) "LiquidChecker") ∈ NXW := nx_at 440 (by decide +kernel) (by decide +kernel)
theorem nx451 : (Jvm.Cond.methodLinkNest "LiquidChecker$Walk" (125 : Nat) ({ cls := "LiquidChecker$Known", name := "give", desc := "(III)V" } : Jvm.MethodName) "LiquidChecker") ∈ NXW := nx_at 451 (by decide +kernel) (by decide +kernel)
theorem nx458 : (Jvm.Cond.methodLinkNest "LiquidChecker$Walk" (158 : Nat) ({ cls := "LiquidChecker$Relations", name := "shownBy", desc := "(LLiquidChecker$Known;II)Z" } : Jvm.MethodName) "LiquidChecker") ∈ NXW := nx_at 458 (by decide +kernel) (by decide +kernel)
theorem nx462 : (Jvm.Cond.methodLinkNest "LiquidChecker$Relations" (35 : Nat) ({ cls := "LiquidChecker$Known", name := "shows", desc := "(III)Z" } : Jvm.MethodName) "LiquidChecker") ∈ NXW := nx_at 462 (by decide +kernel) (by decide +kernel)
theorem nx478 : (Jvm.Cond.methodLinkNest "LiquidChecker$Walk" (152 : Nat) ({ cls := "LiquidChecker$Known", name := "forget", desc := "(I)V" } : Jvm.MethodName) "LiquidChecker") ∈ NXW := nx_at 478 (by decide +kernel) (by decide +kernel)
theorem nx482 : (Jvm.Cond.methodLinkNest "LiquidChecker$Walk" (133 : Nat) ({ cls := "LiquidChecker$Function", name := "targetOf", desc := "(LLiquidChecker$Statement;)I" } : Jvm.MethodName) "LiquidChecker") ∈ NXW := nx_at 482 (by decide +kernel) (by decide +kernel)
theorem nx490 : (Jvm.Cond.methodLinkNest "LiquidChecker$Walk" (79 : Nat) ({ cls := "LiquidChecker$Known", name := "copyFrom", desc := "(LLiquidChecker$Known;)V" } : Jvm.MethodName) "LiquidChecker") ∈ NXW := nx_at 490 (by decide +kernel) (by decide +kernel)
theorem nx497 : (Jvm.Cond.methodLinkNest "LiquidChecker$Walk" (141 : Nat) ({ cls := "LiquidChecker$Known", name := "learn", desc := "(III)V" } : Jvm.MethodName) "LiquidChecker") ∈ NXW := nx_at 497 (by decide +kernel) (by decide +kernel)
theorem nx498 : (Jvm.Cond.methodLinkNest "LiquidChecker$Walk" (144 : Nat) ({ cls := "LiquidChecker$Known", name := "shows", desc := "(III)Z" } : Jvm.MethodName) "LiquidChecker") ∈ NXW := nx_at 498 (by decide +kernel) (by decide +kernel)
theorem nx522 : (Jvm.Cond.methodLinkNest "LiquidChecker" (120 : Nat) ({ cls := "LiquidChecker$Walk", name := "cameTo", desc := "(I)Z" } : Jvm.MethodName) "LiquidChecker") ∈ NXW := nx_at 522 (by decide +kernel) (by decide +kernel)
theorem nx576 : (Jvm.Cond.methodLinkNest "LiquidChecker" (142 : Nat) ({ cls := "LiquidChecker$Known", name := "forgetAll", desc := "()V" } : Jvm.MethodName) "LiquidChecker") ∈ NXW := nx_at 576 (by decide +kernel) (by decide +kernel)
theorem nx577 : (Jvm.Cond.methodLinkNest "LiquidChecker" (145 : Nat) ({ cls := "LiquidChecker$Relations", name := "learnedBy", desc := "(LLiquidChecker$Known;II)V" } : Jvm.MethodName) "LiquidChecker") ∈ NXW := nx_at 577 (by decide +kernel) (by decide +kernel)
theorem nx578 : (Jvm.Cond.methodLinkNest "LiquidChecker" (153 : Nat) ({ cls := "LiquidChecker$Relations", name := "shownBy", desc := "(LLiquidChecker$Known;II)Z" } : Jvm.MethodName) "LiquidChecker") ∈ NXW := nx_at 578 (by decide +kernel) (by decide +kernel)
theorem gsR_append : Cond.selects "LiquidChecker$Relations" (⟨"LiquidChecker$Relations", "append", "(III)I"⟩ : MethodName) (⟨"LiquidChecker$Relations", "append", "(III)I"⟩ : MethodName) ∈ GW := gw_sel (y := ⟨"LiquidChecker$Relations", "append", "(III)I"⟩) (n := 4) 1 (by decide +kernel) (by decide +kernel)
theorem gsF_hasGivenWhatIsUsed : Cond.selects "LiquidChecker$Function" (⟨"LiquidChecker$Function", "hasGivenWhatIsUsed", "(IIII)Z"⟩ : MethodName) (⟨"LiquidChecker$Function", "hasGivenWhatIsUsed", "(IIII)Z"⟩ : MethodName) ∈ GW := gw_sel (y := ⟨"LiquidChecker$Function", "hasGivenWhatIsUsed", "(IIII)Z"⟩) (n := 8) 2 (by decide +kernel) (by decide +kernel)
theorem gsF_hasGiven : Cond.selects "LiquidChecker$Function" (⟨"LiquidChecker$Function", "hasGiven", "(I)Z"⟩ : MethodName) (⟨"LiquidChecker$Function", "hasGiven", "(I)Z"⟩ : MethodName) ∈ GW := gw_sel (y := ⟨"LiquidChecker$Function", "hasGiven", "(I)Z"⟩) (n := 8) 3 (by decide +kernel) (by decide +kernel)
theorem gsF_isOpenFor : Cond.selects "LiquidChecker$Function" (⟨"LiquidChecker$Function", "isOpenFor", "(I)Z"⟩ : MethodName) (⟨"LiquidChecker$Function", "isOpenFor", "(I)Z"⟩ : MethodName) ∈ GW := gw_sel (y := ⟨"LiquidChecker$Function", "isOpenFor", "(I)Z"⟩) (n := 8) 4 (by decide +kernel) (by decide +kernel)
theorem gsF_hasRoomFor : Cond.selects "LiquidChecker$Function" (⟨"LiquidChecker$Function", "hasRoomFor", "(I)Z"⟩ : MethodName) (⟨"LiquidChecker$Function", "hasRoomFor", "(I)Z"⟩ : MethodName) ∈ GW := gw_sel (y := ⟨"LiquidChecker$Function", "hasRoomFor", "(I)Z"⟩) (n := 8) 5 (by decide +kernel) (by decide +kernel)
theorem gsF_append : Cond.selects "LiquidChecker$Function" (⟨"LiquidChecker$Function", "append", "(IIIII)I"⟩ : MethodName) (⟨"LiquidChecker$Function", "append", "(IIIII)I"⟩ : MethodName) ∈ GW := gw_sel (y := ⟨"LiquidChecker$Function", "append", "(IIIII)I"⟩) (n := 8) 6 (by decide +kernel) (by decide +kernel)
theorem gsS_write : Cond.selects "LiquidChecker$Statement" (⟨"LiquidChecker$Statement", "write", "(IIIII)V"⟩ : MethodName) (⟨"LiquidChecker$Statement", "write", "(IIIII)V"⟩ : MethodName) ∈ GW := gw_sel (y := ⟨"LiquidChecker$Statement", "write", "(IIIII)V"⟩) (n := 6) 7 (by decide +kernel) (by decide +kernel)
theorem gsF_openIf : Cond.selects "LiquidChecker$Function" (⟨"LiquidChecker$Function", "openIf", "(I)V"⟩ : MethodName) (⟨"LiquidChecker$Function", "openIf", "(I)V"⟩ : MethodName) ∈ GW := gw_sel (y := ⟨"LiquidChecker$Function", "openIf", "(I)V"⟩) (n := 8) 8 (by decide +kernel) (by decide +kernel)
theorem gsF_turnToElse : Cond.selects "LiquidChecker$Function" (⟨"LiquidChecker$Function", "turnToElse", "(I)V"⟩ : MethodName) (⟨"LiquidChecker$Function", "turnToElse", "(I)V"⟩ : MethodName) ∈ GW := gw_sel (y := ⟨"LiquidChecker$Function", "turnToElse", "(I)V"⟩) (n := 8) 9 (by decide +kernel) (by decide +kernel)
theorem gsF_closeIf : Cond.selects "LiquidChecker$Function" (⟨"LiquidChecker$Function", "closeIf", "(I)V"⟩ : MethodName) (⟨"LiquidChecker$Function", "closeIf", "(I)V"⟩ : MethodName) ∈ GW := gw_sel (y := ⟨"LiquidChecker$Function", "closeIf", "(I)V"⟩) (n := 8) 10 (by decide +kernel) (by decide +kernel)
theorem gsF_empty : Cond.selects "LiquidChecker$Function" (⟨"LiquidChecker$Function", "empty", "()V"⟩ : MethodName) (⟨"LiquidChecker$Function", "empty", "()V"⟩ : MethodName) ∈ GW := gw_sel (y := ⟨"LiquidChecker$Function", "empty", "()V"⟩) (n := 8) 11 (by decide +kernel) (by decide +kernel)
theorem gsW_through : Cond.selects "LiquidChecker$Walk" (⟨"LiquidChecker$Walk", "through", "([LLiquidChecker$Function;LLiquidChecker$Function;III)V"⟩ : MethodName) (⟨"LiquidChecker$Walk", "through", "([LLiquidChecker$Function;LLiquidChecker$Function;III)V"⟩ : MethodName) ∈ GW := gw_sel (y := ⟨"LiquidChecker$Walk", "through", "([LLiquidChecker$Function;LLiquidChecker$Function;III)V"⟩) (n := 11) 12 (by decide +kernel) (by decide +kernel)
theorem gsK_forgetAll : Cond.selects "LiquidChecker$Known" (⟨"LiquidChecker$Known", "forgetAll", "()V"⟩ : MethodName) (⟨"LiquidChecker$Known", "forgetAll", "()V"⟩ : MethodName) ∈ GW := gw_sel (y := ⟨"LiquidChecker$Known", "forgetAll", "()V"⟩) (n := 2) 13 (by decide +kernel) (by decide +kernel)
theorem gsR_learnedBy : Cond.selects "LiquidChecker$Relations" (⟨"LiquidChecker$Relations", "learnedBy", "(LLiquidChecker$Known;II)V"⟩ : MethodName) (⟨"LiquidChecker$Relations", "learnedBy", "(LLiquidChecker$Known;II)V"⟩ : MethodName) ∈ GW := gw_sel (y := ⟨"LiquidChecker$Relations", "learnedBy", "(LLiquidChecker$Known;II)V"⟩) (n := 4) 14 (by decide +kernel) (by decide +kernel)
theorem gsK_learn : Cond.selects "LiquidChecker$Known" (⟨"LiquidChecker$Known", "learn", "(III)V"⟩ : MethodName) (⟨"LiquidChecker$Known", "learn", "(III)V"⟩ : MethodName) ∈ GW := gw_sel (y := ⟨"LiquidChecker$Known", "learn", "(III)V"⟩) (n := 2) 15 (by decide +kernel) (by decide +kernel)
theorem gsW_followFrom : Cond.selects "LiquidChecker$Walk" (⟨"LiquidChecker$Walk", "followFrom", "(I[LLiquidChecker$Function;LLiquidChecker$Function;)V"⟩ : MethodName) (⟨"LiquidChecker$Walk", "followFrom", "(I[LLiquidChecker$Function;LLiquidChecker$Function;)V"⟩ : MethodName) ∈ GW := gw_sel (y := ⟨"LiquidChecker$Walk", "followFrom", "(I[LLiquidChecker$Function;LLiquidChecker$Function;)V"⟩) (n := 11) 16 (by decide +kernel) (by decide +kernel)
theorem gsW_comeTo : Cond.selects "LiquidChecker$Walk" (⟨"LiquidChecker$Walk", "comeTo", "(I)V"⟩ : MethodName) (⟨"LiquidChecker$Walk", "comeTo", "(I)V"⟩ : MethodName) ∈ GW := gw_sel (y := ⟨"LiquidChecker$Walk", "comeTo", "(I)V"⟩) (n := 11) 17 (by decide +kernel) (by decide +kernel)
theorem gsK_bound : Cond.selects "LiquidChecker$Known" (⟨"LiquidChecker$Known", "bound", "(II)I"⟩ : MethodName) (⟨"LiquidChecker$Known", "bound", "(II)I"⟩ : MethodName) ∈ GW := gw_sel (y := ⟨"LiquidChecker$Known", "bound", "(II)I"⟩) (n := 2) 18 (by decide +kernel) (by decide +kernel)
theorem gsW_endAt : Cond.selects "LiquidChecker$Walk" (⟨"LiquidChecker$Walk", "endAt", "(ILLiquidChecker$Function;II)V"⟩ : MethodName) (⟨"LiquidChecker$Walk", "endAt", "(ILLiquidChecker$Function;II)V"⟩ : MethodName) ∈ GW := gw_sel (y := ⟨"LiquidChecker$Walk", "endAt", "(ILLiquidChecker$Function;II)V"⟩) (n := 11) 19 (by decide +kernel) (by decide +kernel)
theorem gsK_give : Cond.selects "LiquidChecker$Known" (⟨"LiquidChecker$Known", "give", "(III)V"⟩ : MethodName) (⟨"LiquidChecker$Known", "give", "(III)V"⟩ : MethodName) ∈ GW := gw_sel (y := ⟨"LiquidChecker$Known", "give", "(III)V"⟩) (n := 2) 20 (by decide +kernel) (by decide +kernel)
theorem gsR_shownBy : Cond.selects "LiquidChecker$Relations" (⟨"LiquidChecker$Relations", "shownBy", "(LLiquidChecker$Known;II)Z"⟩ : MethodName) (⟨"LiquidChecker$Relations", "shownBy", "(LLiquidChecker$Known;II)Z"⟩ : MethodName) ∈ GW := gw_sel (y := ⟨"LiquidChecker$Relations", "shownBy", "(LLiquidChecker$Known;II)Z"⟩) (n := 4) 21 (by decide +kernel) (by decide +kernel)
theorem gsK_shows : Cond.selects "LiquidChecker$Known" (⟨"LiquidChecker$Known", "shows", "(III)Z"⟩ : MethodName) (⟨"LiquidChecker$Known", "shows", "(III)Z"⟩ : MethodName) ∈ GW := gw_sel (y := ⟨"LiquidChecker$Known", "shows", "(III)Z"⟩) (n := 2) 22 (by decide +kernel) (by decide +kernel)
theorem gsW_noteShown : Cond.selects "LiquidChecker$Walk" (⟨"LiquidChecker$Walk", "noteShown", "(IZ)V"⟩ : MethodName) (⟨"LiquidChecker$Walk", "noteShown", "(IZ)V"⟩ : MethodName) ∈ GW := gw_sel (y := ⟨"LiquidChecker$Walk", "noteShown", "(IZ)V"⟩) (n := 11) 23 (by decide +kernel) (by decide +kernel)
theorem gsW_pass : Cond.selects "LiquidChecker$Walk" (⟨"LiquidChecker$Walk", "pass", "(I[LLiquidChecker$Function;LLiquidChecker$Function;)I"⟩ : MethodName) (⟨"LiquidChecker$Walk", "pass", "(I[LLiquidChecker$Function;LLiquidChecker$Function;)I"⟩ : MethodName) ∈ GW := gw_sel (y := ⟨"LiquidChecker$Walk", "pass", "(I[LLiquidChecker$Function;LLiquidChecker$Function;)I"⟩) (n := 11) 24 (by decide +kernel) (by decide +kernel)
theorem gsW_passCall : Cond.selects "LiquidChecker$Walk" (⟨"LiquidChecker$Walk", "passCall", "(ILLiquidChecker$Statement;LLiquidChecker$Function;)V"⟩ : MethodName) (⟨"LiquidChecker$Walk", "passCall", "(ILLiquidChecker$Statement;LLiquidChecker$Function;)V"⟩ : MethodName) ∈ GW := gw_sel (y := ⟨"LiquidChecker$Walk", "passCall", "(ILLiquidChecker$Statement;LLiquidChecker$Function;)V"⟩) (n := 11) 25 (by decide +kernel) (by decide +kernel)
theorem gsK_forget : Cond.selects "LiquidChecker$Known" (⟨"LiquidChecker$Known", "forget", "(I)V"⟩ : MethodName) (⟨"LiquidChecker$Known", "forget", "(I)V"⟩ : MethodName) ∈ GW := gw_sel (y := ⟨"LiquidChecker$Known", "forget", "(I)V"⟩) (n := 2) 26 (by decide +kernel) (by decide +kernel)
theorem gsF_targetOf : Cond.selects "LiquidChecker$Function" (⟨"LiquidChecker$Function", "targetOf", "(LLiquidChecker$Statement;)I"⟩ : MethodName) (⟨"LiquidChecker$Function", "targetOf", "(LLiquidChecker$Statement;)I"⟩ : MethodName) ∈ GW := gw_sel (y := ⟨"LiquidChecker$Function", "targetOf", "(LLiquidChecker$Statement;)I"⟩) (n := 8) 27 (by decide +kernel) (by decide +kernel)
theorem gsW_leaveOtherSide : Cond.selects "LiquidChecker$Walk" (⟨"LiquidChecker$Walk", "leaveOtherSide", "(LLiquidChecker$Statement;I)V"⟩ : MethodName) (⟨"LiquidChecker$Walk", "leaveOtherSide", "(LLiquidChecker$Statement;I)V"⟩ : MethodName) ∈ GW := gw_sel (y := ⟨"LiquidChecker$Walk", "leaveOtherSide", "(LLiquidChecker$Statement;I)V"⟩) (n := 11) 28 (by decide +kernel) (by decide +kernel)
theorem gsK_copyFrom : Cond.selects "LiquidChecker$Known" (⟨"LiquidChecker$Known", "copyFrom", "(LLiquidChecker$Known;)V"⟩ : MethodName) (⟨"LiquidChecker$Known", "copyFrom", "(LLiquidChecker$Known;)V"⟩ : MethodName) ∈ GW := gw_sel (y := ⟨"LiquidChecker$Known", "copyFrom", "(LLiquidChecker$Known;)V"⟩) (n := 2) 29 (by decide +kernel) (by decide +kernel)
theorem gsW_takeWaitingSide : Cond.selects "LiquidChecker$Walk" (⟨"LiquidChecker$Walk", "takeWaitingSide", "()I"⟩ : MethodName) (⟨"LiquidChecker$Walk", "takeWaitingSide", "()I"⟩ : MethodName) ∈ GW := gw_sel (y := ⟨"LiquidChecker$Walk", "takeWaitingSide", "()I"⟩) (n := 11) 30 (by decide +kernel) (by decide +kernel)
theorem gsC_isPlace : Cond.selects "LiquidChecker" (⟨"LiquidChecker", "isPlace", "(II)Z"⟩ : MethodName) (⟨"LiquidChecker", "isPlace", "(II)Z"⟩ : MethodName) ∈ GW := gw_sel (y := ⟨"LiquidChecker", "isPlace", "(II)Z"⟩) (n := 3) 31 (by decide +kernel) (by decide +kernel)
theorem gsW_cameTo : Cond.selects "LiquidChecker$Walk" (⟨"LiquidChecker$Walk", "cameTo", "(I)Z"⟩ : MethodName) (⟨"LiquidChecker$Walk", "cameTo", "(I)Z"⟩ : MethodName) ∈ GW := gw_sel (y := ⟨"LiquidChecker$Walk", "cameTo", "(I)Z"⟩) (n := 11) 32 (by decide +kernel) (by decide +kernel)
theorem gsM_raise : Cond.selects "LiquidCheckerModel" (⟨"LiquidCheckerModel", "raise", "(I)I"⟩ : MethodName) (⟨"LiquidCheckerModel", "raise", "(I)I"⟩ : MethodName) ∈ GW := gw_sel (y := ⟨"LiquidCheckerModel", "raise", "(I)I"⟩) (n := 29) 33 (by decide +kernel) (by decide +kernel)
theorem gsM_stands : Cond.selects "LiquidCheckerModel" (⟨"LiquidCheckerModel", "stands", "(IIIII)Z"⟩ : MethodName) (⟨"LiquidCheckerModel", "stands", "(IIIII)Z"⟩ : MethodName) ∈ GW := gw_sel (y := ⟨"LiquidCheckerModel", "stands", "(IIIII)Z"⟩) (n := 29) 34 (by decide +kernel) (by decide +kernel)
theorem gsM_given : Cond.selects "LiquidCheckerModel" (⟨"LiquidCheckerModel", "given", "(II)Z"⟩ : MethodName) (⟨"LiquidCheckerModel", "given", "(II)Z"⟩ : MethodName) ∈ GW := gw_sel (y := ⟨"LiquidCheckerModel", "given", "(II)Z"⟩) (n := 29) 35 (by decide +kernel) (by decide +kernel)
theorem gsM_explore : Cond.selects "LiquidCheckerModel" (⟨"LiquidCheckerModel", "explore", "(I)V"⟩ : MethodName) (⟨"LiquidCheckerModel", "explore", "(I)V"⟩ : MethodName) ∈ GW := gw_sel (y := ⟨"LiquidCheckerModel", "explore", "(I)V"⟩) (n := 29) 36 (by decide +kernel) (by decide +kernel)
theorem gsM_walk : Cond.selects "LiquidCheckerModel" (⟨"LiquidCheckerModel", "walk", "(I)V"⟩ : MethodName) (⟨"LiquidCheckerModel", "walk", "(I)V"⟩ : MethodName) ∈ GW := gw_sel (y := ⟨"LiquidCheckerModel", "walk", "(I)V"⟩) (n := 29) 37 (by decide +kernel) (by decide +kernel)
theorem gsM_begin : Cond.selects "LiquidCheckerModel" (⟨"LiquidCheckerModel", "begin", "()V"⟩ : MethodName) (⟨"LiquidCheckerModel", "begin", "()V"⟩ : MethodName) ∈ GW := gw_sel (y := ⟨"LiquidCheckerModel", "begin", "()V"⟩) (n := 29) 38 (by decide +kernel) (by decide +kernel)
theorem gsM_knowAll : Cond.selects "LiquidCheckerModel" (⟨"LiquidCheckerModel", "knowAll", "(III)V"⟩ : MethodName) (⟨"LiquidCheckerModel", "knowAll", "(III)V"⟩ : MethodName) ∈ GW := gw_sel (y := ⟨"LiquidCheckerModel", "knowAll", "(III)V"⟩) (n := 29) 39 (by decide +kernel) (by decide +kernel)
theorem gsM_know : Cond.selects "LiquidCheckerModel" (⟨"LiquidCheckerModel", "know", "(IIJ)V"⟩ : MethodName) (⟨"LiquidCheckerModel", "know", "(IIJ)V"⟩ : MethodName) ∈ GW := gw_sel (y := ⟨"LiquidCheckerModel", "know", "(IIJ)V"⟩) (n := 29) 40 (by decide +kernel) (by decide +kernel)
theorem gsM_look : Cond.selects "LiquidCheckerModel" (⟨"LiquidCheckerModel", "look", "(I)V"⟩ : MethodName) (⟨"LiquidCheckerModel", "look", "(I)V"⟩ : MethodName) ∈ GW := gw_sel (y := ⟨"LiquidCheckerModel", "look", "(I)V"⟩) (n := 29) 41 (by decide +kernel) (by decide +kernel)
theorem gsM_returns : Cond.selects "LiquidCheckerModel" (⟨"LiquidCheckerModel", "returns", "(III)V"⟩ : MethodName) (⟨"LiquidCheckerModel", "returns", "(III)V"⟩ : MethodName) ∈ GW := gw_sel (y := ⟨"LiquidCheckerModel", "returns", "(III)V"⟩) (n := 29) 42 (by decide +kernel) (by decide +kernel)
theorem gsM_showsAll : Cond.selects "LiquidCheckerModel" (⟨"LiquidCheckerModel", "showsAll", "(III)Z"⟩ : MethodName) (⟨"LiquidCheckerModel", "showsAll", "(III)Z"⟩ : MethodName) ∈ GW := gw_sel (y := ⟨"LiquidCheckerModel", "showsAll", "(III)Z"⟩) (n := 29) 43 (by decide +kernel) (by decide +kernel)
theorem gsM_shows : Cond.selects "LiquidCheckerModel" (⟨"LiquidCheckerModel", "shows", "(IIJ)Z"⟩ : MethodName) (⟨"LiquidCheckerModel", "shows", "(IIJ)Z"⟩ : MethodName) ∈ GW := gw_sel (y := ⟨"LiquidCheckerModel", "shows", "(IIJ)Z"⟩) (n := 29) 44 (by decide +kernel) (by decide +kernel)
theorem gsM_blame : Cond.selects "LiquidCheckerModel" (⟨"LiquidCheckerModel", "blame", "(I)V"⟩ : MethodName) (⟨"LiquidCheckerModel", "blame", "(I)V"⟩ : MethodName) ∈ GW := gw_sel (y := ⟨"LiquidCheckerModel", "blame", "(I)V"⟩) (n := 29) 45 (by decide +kernel) (by decide +kernel)
theorem gsM_perform : Cond.selects "LiquidCheckerModel" (⟨"LiquidCheckerModel", "perform", "(II)I"⟩ : MethodName) (⟨"LiquidCheckerModel", "perform", "(II)I"⟩ : MethodName) ∈ GW := gw_sel (y := ⟨"LiquidCheckerModel", "perform", "(II)I"⟩) (n := 29) 46 (by decide +kernel) (by decide +kernel)
theorem gsM_rename : Cond.selects "LiquidCheckerModel" (⟨"LiquidCheckerModel", "rename", "(I)V"⟩ : MethodName) (⟨"LiquidCheckerModel", "rename", "(I)V"⟩ : MethodName) ∈ GW := gw_sel (y := ⟨"LiquidCheckerModel", "rename", "(I)V"⟩) (n := 29) 47 (by decide +kernel) (by decide +kernel)
theorem gsM_forget : Cond.selects "LiquidCheckerModel" (⟨"LiquidCheckerModel", "forget", "(I)V"⟩ : MethodName) (⟨"LiquidCheckerModel", "forget", "(I)V"⟩ : MethodName) ∈ GW := gw_sel (y := ⟨"LiquidCheckerModel", "forget", "(I)V"⟩) (n := 29) 48 (by decide +kernel) (by decide +kernel)
theorem gsM_call : Cond.selects "LiquidCheckerModel" (⟨"LiquidCheckerModel", "call", "(II)V"⟩ : MethodName) (⟨"LiquidCheckerModel", "call", "(II)V"⟩ : MethodName) ∈ GW := gw_sel (y := ⟨"LiquidCheckerModel", "call", "(II)V"⟩) (n := 29) 49 (by decide +kernel) (by decide +kernel)
theorem gsM_noPlace : Cond.selects "LiquidCheckerModel" (⟨"LiquidCheckerModel", "noPlace", "(II)Z"⟩ : MethodName) (⟨"LiquidCheckerModel", "noPlace", "(II)Z"⟩ : MethodName) ∈ GW := gw_sel (y := ⟨"LiquidCheckerModel", "noPlace", "(II)Z"⟩) (n := 29) 50 (by decide +kernel) (by decide +kernel)
theorem gsC_refine : (Jvm.Cond.selects "LiquidChecker" ({ cls := "LiquidChecker", name := "refine", desc := "(IIIII)I" } : Jvm.MethodName) ({ cls := "LiquidChecker", name := "refine", desc := "(IIIII)I" } : Jvm.MethodName)) ∈ GW := gw200
theorem gsC_statement : (Jvm.Cond.selects "LiquidChecker" ({ cls := "LiquidChecker", name := "statement", desc := "(IIIIII)I" } : Jvm.MethodName) ({ cls := "LiquidChecker", name := "statement", desc := "(IIIIII)I" } : Jvm.MethodName)) ∈ GW := gw308
theorem gsC_clear : (Jvm.Cond.selects "LiquidChecker" ({ cls := "LiquidChecker", name := "clear", desc := "(I)I" } : Jvm.MethodName) ({ cls := "LiquidChecker", name := "clear", desc := "(I)I" } : Jvm.MethodName)) ∈ GW := gw394
theorem gsC_check : (Jvm.Cond.selects "LiquidChecker" ({ cls := "LiquidChecker", name := "check", desc := "(I)I" } : Jvm.MethodName) ({ cls := "LiquidChecker", name := "check", desc := "(I)I" } : Jvm.MethodName)) ∈ GW := gw406
theorem gsC_ways : (Jvm.Cond.selects "LiquidChecker" ({ cls := "LiquidChecker", name := "ways", desc := "(I)I" } : Jvm.MethodName) ({ cls := "LiquidChecker", name := "ways", desc := "(I)I" } : Jvm.MethodName)) ∈ GW := gw508
theorem gsC_comes : (Jvm.Cond.selects "LiquidChecker" ({ cls := "LiquidChecker", name := "comes", desc := "(II)I" } : Jvm.MethodName) ({ cls := "LiquidChecker", name := "comes", desc := "(II)I" } : Jvm.MethodName)) ∈ GW := gw515
theorem gsC_most : (Jvm.Cond.selects "LiquidChecker" ({ cls := "LiquidChecker", name := "most", desc := "(IIII)I" } : Jvm.MethodName) ({ cls := "LiquidChecker", name := "most", desc := "(IIII)I" } : Jvm.MethodName)) ∈ GW := gw533
theorem gsC_follows : (Jvm.Cond.selects "LiquidChecker" ({ cls := "LiquidChecker", name := "follows", desc := "(II)I" } : Jvm.MethodName) ({ cls := "LiquidChecker", name := "follows", desc := "(II)I" } : Jvm.MethodName)) ∈ GW := gw574
theorem gsC_count : (Jvm.Cond.selects "LiquidChecker" ({ cls := "LiquidChecker", name := "count", desc := "(II)I" } : Jvm.MethodName) ({ cls := "LiquidChecker", name := "count", desc := "(II)I" } : Jvm.MethodName)) ∈ GW := gw584
theorem gsM_thrown : (Jvm.Cond.selects "LiquidCheckerModel" ({ cls := "LiquidCheckerModel", name := "thrown", desc := "()I" } : Jvm.MethodName) ({ cls := "LiquidCheckerModel", name := "thrown", desc := "()I" } : Jvm.MethodName)) ∈ GW := gw685
theorem gsM_refine : (Jvm.Cond.selects "LiquidCheckerModel" ({ cls := "LiquidCheckerModel", name := "refine", desc := "(IIIII)I" } : Jvm.MethodName) ({ cls := "LiquidCheckerModel", name := "refine", desc := "(IIIII)I" } : Jvm.MethodName)) ∈ GW := gw689
theorem gsM_statement : (Jvm.Cond.selects "LiquidCheckerModel" ({ cls := "LiquidCheckerModel", name := "statement", desc := "(IIIIII)I" } : Jvm.MethodName) ({ cls := "LiquidCheckerModel", name := "statement", desc := "(IIIIII)I" } : Jvm.MethodName)) ∈ GW := gw703
theorem gsM_clear : (Jvm.Cond.selects "LiquidCheckerModel" ({ cls := "LiquidCheckerModel", name := "clear", desc := "(I)I" } : Jvm.MethodName) ({ cls := "LiquidCheckerModel", name := "clear", desc := "(I)I" } : Jvm.MethodName)) ∈ GW := gw721
theorem gsM_check : (Jvm.Cond.selects "LiquidCheckerModel" ({ cls := "LiquidCheckerModel", name := "check", desc := "(I)I" } : Jvm.MethodName) ({ cls := "LiquidCheckerModel", name := "check", desc := "(I)I" } : Jvm.MethodName)) ∈ GW := gw725
theorem gsM_ways : (Jvm.Cond.selects "LiquidCheckerModel" ({ cls := "LiquidCheckerModel", name := "ways", desc := "(I)I" } : Jvm.MethodName) ({ cls := "LiquidCheckerModel", name := "ways", desc := "(I)I" } : Jvm.MethodName)) ∈ GW := gw789
theorem gsM_comes : (Jvm.Cond.selects "LiquidCheckerModel" ({ cls := "LiquidCheckerModel", name := "comes", desc := "(II)I" } : Jvm.MethodName) ({ cls := "LiquidCheckerModel", name := "comes", desc := "(II)I" } : Jvm.MethodName)) ∈ GW := gw793
theorem gsM_most : (Jvm.Cond.selects "LiquidCheckerModel" ({ cls := "LiquidCheckerModel", name := "most", desc := "(IIII)I" } : Jvm.MethodName) ({ cls := "LiquidCheckerModel", name := "most", desc := "(IIII)I" } : Jvm.MethodName)) ∈ GW := gw801
theorem gsM_follows : (Jvm.Cond.selects "LiquidCheckerModel" ({ cls := "LiquidCheckerModel", name := "follows", desc := "(II)I" } : Jvm.MethodName) ({ cls := "LiquidCheckerModel", name := "follows", desc := "(II)I" } : Jvm.MethodName)) ∈ GW := gw805
theorem gsM_count : (Jvm.Cond.selects "LiquidCheckerModel" ({ cls := "LiquidCheckerModel", name := "count", desc := "(II)I" } : Jvm.MethodName) ({ cls := "LiquidCheckerModel", name := "count", desc := "(II)I" } : Jvm.MethodName)) ∈ GW := gw809
abbrev cC_init : ByteArray := prog_1_method_1_code
abbrev yC_init : MethodName := ⟨"LiquidChecker", "<init>", "()V"⟩
abbrev wC_init : List Cond := Cond.code yC_init cC_init 2 none :: GW
abbrev cW_init : ByteArray := prog_6_method_1_code
abbrev yW_init : MethodName := ⟨"LiquidChecker$Walk", "<init>", "()V"⟩
abbrev wW_init : List Cond := Cond.code yW_init cW_init 2 none :: GW
abbrev cK_init : ByteArray := prog_3_method_1_code
abbrev yK_init : MethodName := ⟨"LiquidChecker$Known", "<init>", "()V"⟩
abbrev wK_init : List Cond := Cond.code yK_init cK_init 1 none :: GW
abbrev cF_init : ByteArray := prog_2_method_1_code
abbrev yF_init : MethodName := ⟨"LiquidChecker$Function", "<init>", "()V"⟩
abbrev wF_init : List Cond := Cond.code yF_init cF_init 2 none :: GW
abbrev cR_init : ByteArray := prog_4_method_1_code
abbrev yR_init : MethodName := ⟨"LiquidChecker$Relations", "<init>", "()V"⟩
abbrev wR_init : List Cond := Cond.code yR_init cR_init 1 none :: GW
abbrev cS_init : ByteArray := prog_5_method_1_code
abbrev yS_init : MethodName := ⟨"LiquidChecker$Statement", "<init>", "()V"⟩
abbrev wS_init : List Cond := Cond.code yS_init cS_init 1 none :: GW
abbrev cL_refine : ByteArray := method_3_code
abbrev yL_refine : MethodName := ⟨"LiquidCheckerLaw", "refine", "(LLiquidChecker;IIIII[J)I"⟩
abbrev cC_refine : ByteArray := prog_1_method_2_code
abbrev yC_refine : MethodName := ⟨"LiquidChecker", "refine", "(IIIII)I"⟩
abbrev wC_refine : List Cond := Cond.code yC_refine cC_refine 8 (some .int) :: GW
abbrev cC_isFunction : ByteArray := prog_1_method_13_code
abbrev yC_isFunction : MethodName := ⟨"LiquidChecker", "isFunction", "(I)Z"⟩
abbrev wC_isFunction : List Cond := Cond.code yC_isFunction cC_isFunction 1 (some .boolean) :: GW
abbrev cC_isWithin : ByteArray := prog_1_method_12_code
abbrev yC_isWithin : MethodName := ⟨"LiquidChecker", "isWithin", "(III)Z"⟩
abbrev wC_isWithin : List Cond := Cond.code yC_isWithin cC_isWithin 3 (some .boolean) :: GW
abbrev cC_isDifference : ByteArray := prog_1_method_14_code
abbrev yC_isDifference : MethodName := ⟨"LiquidChecker", "isDifference", "(I)Z"⟩
abbrev wC_isDifference : List Cond := Cond.code yC_isDifference cC_isDifference 1 (some .boolean) :: GW
abbrev cR_append : ByteArray := prog_4_method_2_code
abbrev yR_append : MethodName := ⟨"LiquidChecker$Relations", "append", "(III)I"⟩
abbrev wR_append : List Cond := Cond.code yR_append cR_append 4 (some .int) :: GW
abbrev cL_statement : ByteArray := method_4_code
abbrev yL_statement : MethodName := ⟨"LiquidCheckerLaw", "statement", "(LLiquidChecker;IIIIII[J)I"⟩
abbrev cC_statement : ByteArray := prog_1_method_3_code
abbrev yC_statement : MethodName := ⟨"LiquidChecker", "statement", "(IIIIII)I"⟩
abbrev wC_statement : List Cond := Cond.code yC_statement cC_statement 8 (some .int) :: GW
abbrev cC_isStatement : ByteArray := prog_1_method_21_code
abbrev yC_isStatement : MethodName := ⟨"LiquidChecker", "isStatement", "(IIIII)Z"⟩
abbrev wC_isStatement : List Cond := Cond.code yC_isStatement cC_isStatement 5 (some .boolean) :: GW
abbrev cC_givesA : ByteArray := prog_1_method_17_code
abbrev yC_givesA : MethodName := ⟨"LiquidChecker", "givesA", "(I)Z"⟩
abbrev wC_givesA : List Cond := Cond.code yC_givesA cC_givesA 1 (some .boolean) :: GW
abbrev cC_isGivable : ByteArray := prog_1_method_15_code
abbrev yC_isGivable : MethodName := ⟨"LiquidChecker", "isGivable", "(I)Z"⟩
abbrev wC_isGivable : List Cond := Cond.code yC_isGivable cC_isGivable 1 (some .boolean) :: GW
abbrev cC_usesA : ByteArray := prog_1_method_18_code
abbrev yC_usesA : MethodName := ⟨"LiquidChecker", "usesA", "(I)Z"⟩
abbrev wC_usesA : List Cond := Cond.code yC_usesA cC_usesA 1 (some .boolean) :: GW
abbrev cC_isUsable : ByteArray := prog_1_method_16_code
abbrev yC_isUsable : MethodName := ⟨"LiquidChecker", "isUsable", "(I)Z"⟩
abbrev wC_isUsable : List Cond := Cond.code yC_isUsable cC_isUsable 1 (some .boolean) :: GW
abbrev cC_usesB : ByteArray := prog_1_method_19_code
abbrev yC_usesB : MethodName := ⟨"LiquidChecker", "usesB", "(I)Z"⟩
abbrev wC_usesB : List Cond := Cond.code yC_usesB cC_usesB 1 (some .boolean) :: GW
abbrev cC_usesC : ByteArray := prog_1_method_20_code
abbrev yC_usesC : MethodName := ⟨"LiquidChecker", "usesC", "(I)Z"⟩
abbrev wC_usesC : List Cond := Cond.code yC_usesC cC_usesC 1 (some .boolean) :: GW
abbrev cF_hasGivenWhatIsUsed : ByteArray := prog_2_method_3_code
abbrev yF_hasGivenWhatIsUsed : MethodName := ⟨"LiquidChecker$Function", "hasGivenWhatIsUsed", "(IIII)Z"⟩
abbrev wF_hasGivenWhatIsUsed : List Cond := Cond.code yF_hasGivenWhatIsUsed cF_hasGivenWhatIsUsed 5 (some .boolean) :: GW
abbrev cF_hasGiven : ByteArray := prog_2_method_4_code
abbrev yF_hasGiven : MethodName := ⟨"LiquidChecker$Function", "hasGiven", "(I)Z"⟩
abbrev wF_hasGiven : List Cond := Cond.code yF_hasGiven cF_hasGiven 2 (some .boolean) :: GW
abbrev cF_isOpenFor : ByteArray := prog_2_method_5_code
abbrev yF_isOpenFor : MethodName := ⟨"LiquidChecker$Function", "isOpenFor", "(I)Z"⟩
abbrev wF_isOpenFor : List Cond := Cond.code yF_isOpenFor cF_isOpenFor 2 (some .boolean) :: GW
abbrev cF_hasRoomFor : ByteArray := prog_2_method_6_code
abbrev yF_hasRoomFor : MethodName := ⟨"LiquidChecker$Function", "hasRoomFor", "(I)Z"⟩
abbrev wF_hasRoomFor : List Cond := Cond.code yF_hasRoomFor cF_hasRoomFor 2 (some .boolean) :: GW
abbrev cF_append : ByteArray := prog_2_method_7_code
abbrev yF_append : MethodName := ⟨"LiquidChecker$Function", "append", "(IIIII)I"⟩
abbrev wF_append : List Cond := Cond.code yF_append cF_append 7 (some .int) :: GW
abbrev cS_write : ByteArray := prog_5_method_2_code
abbrev yS_write : MethodName := ⟨"LiquidChecker$Statement", "write", "(IIIII)V"⟩
abbrev wS_write : List Cond := Cond.code yS_write cS_write 6 none :: GW
abbrev cF_openIf : ByteArray := prog_2_method_8_code
abbrev yF_openIf : MethodName := ⟨"LiquidChecker$Function", "openIf", "(I)V"⟩
abbrev wF_openIf : List Cond := Cond.code yF_openIf cF_openIf 2 none :: GW
abbrev cF_turnToElse : ByteArray := prog_2_method_9_code
abbrev yF_turnToElse : MethodName := ⟨"LiquidChecker$Function", "turnToElse", "(I)V"⟩
abbrev wF_turnToElse : List Cond := Cond.code yF_turnToElse cF_turnToElse 2 none :: GW
abbrev cF_closeIf : ByteArray := prog_2_method_10_code
abbrev yF_closeIf : MethodName := ⟨"LiquidChecker$Function", "closeIf", "(I)V"⟩
abbrev wF_closeIf : List Cond := Cond.code yF_closeIf cF_closeIf 2 none :: GW
abbrev cL_clear : ByteArray := method_5_code
abbrev yL_clear : MethodName := ⟨"LiquidCheckerLaw", "clear", "(LLiquidChecker;I[J)I"⟩
abbrev cC_clear : ByteArray := prog_1_method_4_code
abbrev yC_clear : MethodName := ⟨"LiquidChecker", "clear", "(I)I"⟩
abbrev wC_clear : List Cond := Cond.code yC_clear cC_clear 3 (some .int) :: GW
abbrev cF_empty : ByteArray := prog_2_method_2_code
abbrev yF_empty : MethodName := ⟨"LiquidChecker$Function", "empty", "()V"⟩
abbrev wF_empty : List Cond := Cond.code yF_empty cF_empty 1 none :: GW
abbrev cL_check : ByteArray := method_6_code
abbrev yL_check : MethodName := ⟨"LiquidCheckerLaw", "check", "(LLiquidChecker;I[J)I"⟩
abbrev cC_check : ByteArray := prog_1_method_5_code
abbrev yC_check : MethodName := ⟨"LiquidChecker", "check", "(I)I"⟩
abbrev wC_check : List Cond := Cond.code yC_check cC_check 2 (some .int) :: GW
abbrev cW_through : ByteArray := prog_6_method_3_code
abbrev yW_through : MethodName := ⟨"LiquidChecker$Walk", "through", "([LLiquidChecker$Function;LLiquidChecker$Function;III)V"⟩
abbrev wW_through : List Cond := Cond.code yW_through cW_through 8 none :: GW
abbrev cK_forgetAll : ByteArray := prog_3_method_2_code
abbrev yK_forgetAll : MethodName := ⟨"LiquidChecker$Known", "forgetAll", "()V"⟩
abbrev wK_forgetAll : List Cond := Cond.code yK_forgetAll cK_forgetAll 2 none :: GW
abbrev cA_fill : ByteArray := prog_19_method_103_code
abbrev yA_fill : MethodName := ⟨"java/util/Arrays", "fill", "([II)V"⟩
abbrev wA_fill : List Cond := Cond.code yA_fill cA_fill 4 none :: GW
abbrev cR_learnedBy : ByteArray := prog_4_method_3_code
abbrev yR_learnedBy : MethodName := ⟨"LiquidChecker$Relations", "learnedBy", "(LLiquidChecker$Known;II)V"⟩
abbrev wR_learnedBy : List Cond := Cond.code yR_learnedBy cR_learnedBy 5 none :: GW
abbrev cR_nameFor : ByteArray := prog_4_method_5_code
abbrev yR_nameFor : MethodName := ⟨"LiquidChecker$Relations", "nameFor", "(III)I"⟩
abbrev wR_nameFor : List Cond := Cond.code yR_nameFor cR_nameFor 3 (some .int) :: GW
abbrev cK_learn : ByteArray := prog_3_method_6_code
abbrev yK_learn : MethodName := ⟨"LiquidChecker$Known", "learn", "(III)V"⟩
abbrev wK_learn : List Cond := Cond.code yK_learn cK_learn 9 none :: GW
abbrev cW_followFrom : ByteArray := prog_6_method_5_code
abbrev yW_followFrom : MethodName := ⟨"LiquidChecker$Walk", "followFrom", "(I[LLiquidChecker$Function;LLiquidChecker$Function;)V"⟩
abbrev wW_followFrom : List Cond := Cond.code yW_followFrom cW_followFrom 6 none :: GW
abbrev cW_comeTo : ByteArray := prog_6_method_6_code
abbrev yW_comeTo : MethodName := ⟨"LiquidChecker$Walk", "comeTo", "(I)V"⟩
abbrev wW_comeTo : List Cond := Cond.code yW_comeTo cW_comeTo 2 none :: GW
abbrev cK_bound : ByteArray := prog_3_method_4_code
abbrev yK_bound : MethodName := ⟨"LiquidChecker$Known", "bound", "(II)I"⟩
abbrev wK_bound : List Cond := Cond.code yK_bound cK_bound 3 (some .int) :: GW
abbrev cW_endAt : ByteArray := prog_6_method_10_code
abbrev yW_endAt : MethodName := ⟨"LiquidChecker$Walk", "endAt", "(ILLiquidChecker$Function;II)V"⟩
abbrev wW_endAt : List Cond := Cond.code yW_endAt cW_endAt 5 none :: GW
abbrev cK_give : ByteArray := prog_3_method_7_code
abbrev yK_give : MethodName := ⟨"LiquidChecker$Known", "give", "(III)V"⟩
abbrev wK_give : List Cond := Cond.code yK_give cK_give 5 none :: GW
abbrev cK_moved : ByteArray := prog_3_method_8_code
abbrev yK_moved : MethodName := ⟨"LiquidChecker$Known", "moved", "(II)I"⟩
abbrev wK_moved : List Cond := Cond.code yK_moved cK_moved 2 (some .int) :: GW
abbrev cR_shownBy : ByteArray := prog_4_method_4_code
abbrev yR_shownBy : MethodName := ⟨"LiquidChecker$Relations", "shownBy", "(LLiquidChecker$Known;II)Z"⟩
abbrev wR_shownBy : List Cond := Cond.code yR_shownBy cR_shownBy 5 (some .boolean) :: GW
abbrev cK_shows : ByteArray := prog_3_method_5_code
abbrev yK_shows : MethodName := ⟨"LiquidChecker$Known", "shows", "(III)Z"⟩
abbrev wK_shows : List Cond := Cond.code yK_shows cK_shows 4 (some .boolean) :: GW
abbrev cW_noteShown : ByteArray := prog_6_method_11_code
abbrev yW_noteShown : MethodName := ⟨"LiquidChecker$Walk", "noteShown", "(IZ)V"⟩
abbrev wW_noteShown : List Cond := Cond.code yW_noteShown cW_noteShown 3 none :: GW
abbrev cW_pass : ByteArray := prog_6_method_7_code
abbrev yW_pass : MethodName := ⟨"LiquidChecker$Walk", "pass", "(I[LLiquidChecker$Function;LLiquidChecker$Function;)I"⟩
abbrev wW_pass : List Cond := Cond.code yW_pass cW_pass 6 (some .int) :: GW
abbrev cW_passCall : ByteArray := prog_6_method_8_code
abbrev yW_passCall : MethodName := ⟨"LiquidChecker$Walk", "passCall", "(ILLiquidChecker$Statement;LLiquidChecker$Function;)V"⟩
abbrev wW_passCall : List Cond := Cond.code yW_passCall cW_passCall 4 none :: GW
abbrev cK_forget : ByteArray := prog_3_method_9_code
abbrev yK_forget : MethodName := ⟨"LiquidChecker$Known", "forget", "(I)V"⟩
abbrev wK_forget : List Cond := Cond.code yK_forget cK_forget 3 none :: GW
abbrev cF_targetOf : ByteArray := prog_2_method_11_code
abbrev yF_targetOf : MethodName := ⟨"LiquidChecker$Function", "targetOf", "(LLiquidChecker$Statement;)I"⟩
abbrev wF_targetOf : List Cond := Cond.code yF_targetOf cF_targetOf 2 (some .int) :: GW
abbrev cW_leaveOtherSide : ByteArray := prog_6_method_9_code
abbrev yW_leaveOtherSide : MethodName := ⟨"LiquidChecker$Walk", "leaveOtherSide", "(LLiquidChecker$Statement;I)V"⟩
abbrev wW_leaveOtherSide : List Cond := Cond.code yW_leaveOtherSide cW_leaveOtherSide 4 none :: GW
abbrev cK_copyFrom : ByteArray := prog_3_method_3_code
abbrev yK_copyFrom : MethodName := ⟨"LiquidChecker$Known", "copyFrom", "(LLiquidChecker$Known;)V"⟩
abbrev wK_copyFrom : List Cond := Cond.code yK_copyFrom cK_copyFrom 2 none :: GW
abbrev cW_takeWaitingSide : ByteArray := prog_6_method_4_code
abbrev yW_takeWaitingSide : MethodName := ⟨"LiquidChecker$Walk", "takeWaitingSide", "()I"⟩
abbrev wW_takeWaitingSide : List Cond := Cond.code yW_takeWaitingSide cW_takeWaitingSide 1 (some .int) :: GW
abbrev cL_ways : ByteArray := method_7_code
abbrev yL_ways : MethodName := ⟨"LiquidCheckerLaw", "ways", "(LLiquidChecker;I[J)I"⟩
abbrev cC_ways : ByteArray := prog_1_method_6_code
abbrev yC_ways : MethodName := ⟨"LiquidChecker", "ways", "(I)I"⟩
abbrev wC_ways : List Cond := Cond.code yC_ways cC_ways 2 (some .int) :: GW
abbrev cL_comes : ByteArray := method_8_code
abbrev yL_comes : MethodName := ⟨"LiquidCheckerLaw", "comes", "(LLiquidChecker;II[J)I"⟩
abbrev cC_comes : ByteArray := prog_1_method_7_code
abbrev yC_comes : MethodName := ⟨"LiquidChecker", "comes", "(II)I"⟩
abbrev wC_comes : List Cond := Cond.code yC_comes cC_comes 3 (some .int) :: GW
abbrev cC_isPlace : ByteArray := prog_1_method_11_code
abbrev yC_isPlace : MethodName := ⟨"LiquidChecker", "isPlace", "(II)Z"⟩
abbrev wC_isPlace : List Cond := Cond.code yC_isPlace cC_isPlace 3 (some .boolean) :: GW
abbrev cW_cameTo : ByteArray := prog_6_method_2_code
abbrev yW_cameTo : MethodName := ⟨"LiquidChecker$Walk", "cameTo", "(I)Z"⟩
abbrev wW_cameTo : List Cond := Cond.code yW_cameTo cW_cameTo 2 (some .boolean) :: GW
abbrev cL_most : ByteArray := method_9_code
abbrev yL_most : MethodName := ⟨"LiquidCheckerLaw", "most", "(LLiquidChecker;IIII[J)I"⟩
abbrev cC_most : ByteArray := prog_1_method_8_code
abbrev yC_most : MethodName := ⟨"LiquidChecker", "most", "(IIII)I"⟩
abbrev wC_most : List Cond := Cond.code yC_most cC_most 5 (some .int) :: GW
abbrev cL_follows : ByteArray := method_10_code
abbrev yL_follows : MethodName := ⟨"LiquidCheckerLaw", "follows", "(LLiquidChecker;II[J)I"⟩
abbrev cC_follows : ByteArray := prog_1_method_9_code
abbrev yC_follows : MethodName := ⟨"LiquidChecker", "follows", "(II)I"⟩
abbrev wC_follows : List Cond := Cond.code yC_follows cC_follows 4 (some .int) :: GW
abbrev cL_count : ByteArray := method_11_code
abbrev yL_count : MethodName := ⟨"LiquidCheckerLaw", "count", "(LLiquidChecker;II[J)I"⟩
abbrev cC_count : ByteArray := prog_1_method_10_code
abbrev yC_count : MethodName := ⟨"LiquidChecker", "count", "(II)I"⟩
abbrev wC_count : List Cond := Cond.code yC_count cC_count 4 (some .int) :: GW
abbrev cM_init : ByteArray := prog_8_method_1_code
abbrev yM_init : MethodName := ⟨"LiquidCheckerModel", "<init>", "()V"⟩
abbrev wM_init : List Cond := Cond.code yM_init cM_init 1 none :: GW
abbrev cM_thrown : ByteArray := prog_8_method_2_code
abbrev yM_thrown : MethodName := ⟨"LiquidCheckerModel", "thrown", "()I"⟩
abbrev wM_thrown : List Cond := Cond.code yM_thrown cM_thrown 1 (some .int) :: GW
abbrev cM_refine : ByteArray := prog_8_method_6_code
abbrev yM_refine : MethodName := ⟨"LiquidCheckerModel", "refine", "(IIIII)I"⟩
abbrev wM_refine : List Cond := Cond.code yM_refine cM_refine 8 (some .int) :: GW
abbrev cM_noFunction : ByteArray := prog_8_method_5_code
abbrev yM_noFunction : MethodName := ⟨"LiquidCheckerModel", "noFunction", "(I)Z"⟩
abbrev wM_noFunction : List Cond := Cond.code yM_noFunction cM_noFunction 1 (some .boolean) :: GW
abbrev cM_in : ByteArray := prog_8_method_4_code
abbrev yM_in : MethodName := ⟨"LiquidCheckerModel", "in", "(III)Z"⟩
abbrev wM_in : List Cond := Cond.code yM_in cM_in 3 (some .boolean) :: GW
abbrev cM_raise : ByteArray := prog_8_method_3_code
abbrev yM_raise : MethodName := ⟨"LiquidCheckerModel", "raise", "(I)I"⟩
abbrev wM_raise : List Cond := Cond.code yM_raise cM_raise 2 (some .int) :: GW
abbrev cM_statement : ByteArray := prog_8_method_11_code
abbrev yM_statement : MethodName := ⟨"LiquidCheckerModel", "statement", "(IIIIII)I"⟩
abbrev wM_statement : List Cond := Cond.code yM_statement cM_statement 9 (some .int) :: GW
abbrev cM_fits : ByteArray := prog_8_method_8_code
abbrev yM_fits : MethodName := ⟨"LiquidCheckerModel", "fits", "(IIIII)Z"⟩
abbrev wM_fits : List Cond := Cond.code yM_fits cM_fits 7 (some .boolean) :: GW
abbrev cM_name : ByteArray := prog_8_method_7_code
abbrev yM_name : MethodName := ⟨"LiquidCheckerModel", "name", "(I)Z"⟩
abbrev wM_name : List Cond := Cond.code yM_name cM_name 1 (some .boolean) :: GW
abbrev cM_stands : ByteArray := prog_8_method_10_code
abbrev yM_stands : MethodName := ⟨"LiquidCheckerModel", "stands", "(IIIII)Z"⟩
abbrev wM_stands : List Cond := Cond.code yM_stands cM_stands 7 (some .boolean) :: GW
abbrev cM_given : ByteArray := prog_8_method_9_code
abbrev yM_given : MethodName := ⟨"LiquidCheckerModel", "given", "(II)Z"⟩
abbrev wM_given : List Cond := Cond.code yM_given cM_given 4 (some .boolean) :: GW
abbrev cM_clear : ByteArray := prog_8_method_12_code
abbrev yM_clear : MethodName := ⟨"LiquidCheckerModel", "clear", "(I)I"⟩
abbrev wM_clear : List Cond := Cond.code yM_clear cM_clear 3 (some .int) :: GW
abbrev cM_check : ByteArray := prog_8_method_29_code
abbrev yM_check : MethodName := ⟨"LiquidCheckerModel", "check", "(I)I"⟩
abbrev wM_check : List Cond := Cond.code yM_check cM_check 2 (some .int) :: GW
abbrev cM_explore : ByteArray := prog_8_method_27_code
abbrev yM_explore : MethodName := ⟨"LiquidCheckerModel", "explore", "(I)V"⟩
abbrev wM_explore : List Cond := Cond.code yM_explore cM_explore 3 none :: GW
abbrev cM_walk : ByteArray := prog_8_method_26_code
abbrev yM_walk : MethodName := ⟨"LiquidCheckerModel", "walk", "(I)V"⟩
abbrev wM_walk : List Cond := Cond.code yM_walk cM_walk 6 none :: GW
abbrev cM_begin : ByteArray := prog_8_method_13_code
abbrev yM_begin : MethodName := ⟨"LiquidCheckerModel", "begin", "()V"⟩
abbrev wM_begin : List Cond := Cond.code yM_begin cM_begin 3 none :: GW
abbrev cM_knowAll : ByteArray := prog_8_method_19_code
abbrev yM_knowAll : MethodName := ⟨"LiquidCheckerModel", "knowAll", "(III)V"⟩
abbrev wM_knowAll : List Cond := Cond.code yM_knowAll cM_knowAll 5 none :: GW
abbrev cM_stand : ByteArray := prog_8_method_18_code
abbrev yM_stand : MethodName := ⟨"LiquidCheckerModel", "stand", "(III)I"⟩
abbrev wM_stand : List Cond := Cond.code yM_stand cM_stand 3 (some .int) :: GW
abbrev cM_know : ByteArray := prog_8_method_14_code
abbrev yM_know : MethodName := ⟨"LiquidCheckerModel", "know", "(IIJ)V"⟩
abbrev wM_know : List Cond := Cond.code yM_know cM_know 9 none :: GW
abbrev cM_look : ByteArray := prog_8_method_25_code
abbrev yM_look : MethodName := ⟨"LiquidCheckerModel", "look", "(I)V"⟩
abbrev wM_look : List Cond := Cond.code yM_look cM_look 4 none :: GW
abbrev cM_returns : ByteArray := prog_8_method_22_code
abbrev yM_returns : MethodName := ⟨"LiquidCheckerModel", "returns", "(III)V"⟩
abbrev wM_returns : List Cond := Cond.code yM_returns cM_returns 4 none :: GW
abbrev cM_showsAll : ByteArray := prog_8_method_20_code
abbrev yM_showsAll : MethodName := ⟨"LiquidCheckerModel", "showsAll", "(III)Z"⟩
abbrev wM_showsAll : List Cond := Cond.code yM_showsAll cM_showsAll 5 (some .boolean) :: GW
abbrev cM_shows : ByteArray := prog_8_method_15_code
abbrev yM_shows : MethodName := ⟨"LiquidCheckerModel", "shows", "(IIJ)Z"⟩
abbrev wM_shows : List Cond := Cond.code yM_shows cM_shows 5 (some .boolean) :: GW
abbrev cM_blame : ByteArray := prog_8_method_21_code
abbrev yM_blame : MethodName := ⟨"LiquidCheckerModel", "blame", "(I)V"⟩
abbrev wM_blame : List Cond := Cond.code yM_blame cM_blame 2 none :: GW
abbrev cM_perform : ByteArray := prog_8_method_24_code
abbrev yM_perform : MethodName := ⟨"LiquidCheckerModel", "perform", "(II)I"⟩
abbrev wM_perform : List Cond := Cond.code yM_perform cM_perform 8 (some .int) :: GW
abbrev cM_rename : ByteArray := prog_8_method_17_code
abbrev yM_rename : MethodName := ⟨"LiquidCheckerModel", "rename", "(I)V"⟩
abbrev wM_rename : List Cond := Cond.code yM_rename cM_rename 3 none :: GW
abbrev cM_forget : ByteArray := prog_8_method_16_code
abbrev yM_forget : MethodName := ⟨"LiquidCheckerModel", "forget", "(I)V"⟩
abbrev wM_forget : List Cond := Cond.code yM_forget cM_forget 3 none :: GW
abbrev cM_call : ByteArray := prog_8_method_23_code
abbrev yM_call : MethodName := ⟨"LiquidCheckerModel", "call", "(II)V"⟩
abbrev wM_call : List Cond := Cond.code yM_call cM_call 3 none :: GW
abbrev cM_ways : ByteArray := prog_8_method_30_code
abbrev yM_ways : MethodName := ⟨"LiquidCheckerModel", "ways", "(I)I"⟩
abbrev wM_ways : List Cond := Cond.code yM_ways cM_ways 2 (some .int) :: GW
abbrev cM_comes : ByteArray := prog_8_method_31_code
abbrev yM_comes : MethodName := ⟨"LiquidCheckerModel", "comes", "(II)I"⟩
abbrev wM_comes : List Cond := Cond.code yM_comes cM_comes 3 (some .int) :: GW
abbrev cM_noPlace : ByteArray := prog_8_method_28_code
abbrev yM_noPlace : MethodName := ⟨"LiquidCheckerModel", "noPlace", "(II)Z"⟩
abbrev wM_noPlace : List Cond := Cond.code yM_noPlace cM_noPlace 3 (some .boolean) :: GW
abbrev cM_most : ByteArray := prog_8_method_32_code
abbrev yM_most : MethodName := ⟨"LiquidCheckerModel", "most", "(IIII)I"⟩
abbrev wM_most : List Cond := Cond.code yM_most cM_most 5 (some .int) :: GW
abbrev cM_follows : ByteArray := prog_8_method_33_code
abbrev yM_follows : MethodName := ⟨"LiquidCheckerModel", "follows", "(II)I"⟩
abbrev wM_follows : List Cond := Cond.code yM_follows cM_follows 3 (some .int) :: GW
abbrev cM_count : ByteArray := prog_8_method_34_code
abbrev yM_count : MethodName := ⟨"LiquidCheckerModel", "count", "(II)I"⟩
abbrev wM_count : List Cond := Cond.code yM_count cM_count 3 (some .int) :: GW

section
theorem x_u1 {w : Cond} (h : w ∈ tables_1_1) : w ∈ tables_1 := (List.mem_append_left _ h)
theorem x_u2 {w : Cond} (h : w ∈ tables_1_2) : w ∈ tables_1 := (List.mem_append_right _ (List.mem_append_left _ h))
theorem x_u3 {w : Cond} (h : w ∈ tables_1_3) : w ∈ tables_1 := (List.mem_append_right _ (List.mem_append_right _ (List.mem_append_left _ h)))
theorem x_u4 {w : Cond} (h : w ∈ tables_1_4) : w ∈ tables_1 := (List.mem_append_right _ (List.mem_append_right _ (List.mem_append_right _ (List.mem_append_left _ h))))
theorem x_u5 {w : Cond} (h : w ∈ tables_1_5) : w ∈ tables_1 := (List.mem_append_right _ (List.mem_append_right _ (List.mem_append_right _ (List.mem_append_right _ (List.mem_append_left _ h)))))
theorem x_u6 {w : Cond} (h : w ∈ tables_1_6) : w ∈ tables_1 := (List.mem_append_right _ (List.mem_append_right _ (List.mem_append_right _ (List.mem_append_right _ (List.mem_append_right _ h)))))
-- ===== PART A: goes FIRST, ahead of the names: the tables' words, and 'selects' of the private methods out of them =====
/-- a private method of a class that the tables say can be made, by its rows of tables_1 -/
def lw_okq (q : MethodName × Nat) : Prop := (q.1.cls ≠ "java/lang/invoke/MethodHandle" ∧ q.1.cls ≠ "java/lang/invoke/VarHandle") ∧ Cond.instantiable q.1.cls q.2 ∈ tables_1 ∧ Cond.privateMethod q.1 ∈ tables_1 ∧ Cond.instanceMethod q.1 ∈ tables_1
set_option maxRecDepth 100000 in
theorem lw_p0 : lw_okq (⟨"WoodliceSenate", "readStone", "()V"⟩, 16) := ⟨⟨by decide +kernel, by decide +kernel⟩, x_u1 (List.mem_of_getElem? (i := 12) rfl), x_u1 (List.mem_of_getElem? (i := 201) rfl), x_u1 (List.mem_of_getElem? (i := 202) rfl)⟩
set_option maxRecDepth 100000 in
theorem lw_p1 : lw_okq (⟨"WoodliceSenate", "faultOfStone", "()I"⟩, 16) := ⟨⟨by decide +kernel, by decide +kernel⟩, x_u1 (List.mem_of_getElem? (i := 12) rfl), x_u1 (List.mem_of_getElem? (i := 205) rfl), x_u1 (List.mem_of_getElem? (i := 206) rfl)⟩
set_option maxRecDepth 100000 in
theorem lw_p2 : lw_okq (⟨"WoodliceSenate", "textOf", "(I)LWoodliceSenate$Text;"⟩, 16) := ⟨⟨by decide +kernel, by decide +kernel⟩, x_u1 (List.mem_of_getElem? (i := 12) rfl), x_u2 (List.mem_of_getElem? (i := 37) rfl), x_u2 (List.mem_of_getElem? (i := 38) rfl)⟩
set_option maxRecDepth 100000 in
theorem lw_p3 : lw_okq (⟨"WoodliceSenate", "readTexts", "()V"⟩, 16) := ⟨⟨by decide +kernel, by decide +kernel⟩, x_u1 (List.mem_of_getElem? (i := 12) rfl), x_u2 (List.mem_of_getElem? (i := 45) rfl), x_u2 (List.mem_of_getElem? (i := 46) rfl)⟩
set_option maxRecDepth 100000 in
theorem lw_p4 : lw_okq (⟨"WoodliceSenate", "readMembers", "()V"⟩, 16) := ⟨⟨by decide +kernel, by decide +kernel⟩, x_u1 (List.mem_of_getElem? (i := 12) rfl), x_u2 (List.mem_of_getElem? (i := 49) rfl), x_u2 (List.mem_of_getElem? (i := 50) rfl)⟩
set_option maxRecDepth 100000 in
theorem lw_p5 : lw_okq (⟨"WoodliceSenate", "faultOfMembers", "()I"⟩, 16) := ⟨⟨by decide +kernel, by decide +kernel⟩, x_u1 (List.mem_of_getElem? (i := 12) rfl), x_u2 (List.mem_of_getElem? (i := 57) rfl), x_u2 (List.mem_of_getElem? (i := 58) rfl)⟩
set_option maxRecDepth 100000 in
theorem lw_p6 : lw_okq (⟨"WoodliceSenate", "sheetOf", "(I)LWoodliceSenate$Sheet;"⟩, 16) := ⟨⟨by decide +kernel, by decide +kernel⟩, x_u1 (List.mem_of_getElem? (i := 12) rfl), x_u2 (List.mem_of_getElem? (i := 145) rfl), x_u2 (List.mem_of_getElem? (i := 146) rfl)⟩
set_option maxRecDepth 100000 in
theorem lw_p7 : lw_okq (⟨"WoodliceSenate", "finding", "(I)I"⟩, 16) := ⟨⟨by decide +kernel, by decide +kernel⟩, x_u1 (List.mem_of_getElem? (i := 12) rfl), x_u2 (List.mem_of_getElem? (i := 153) rfl), x_u2 (List.mem_of_getElem? (i := 154) rfl)⟩
set_option maxRecDepth 100000 in
theorem lw_p8 : lw_okq (⟨"WoodliceSenate", "chamberAsTold", "()LWoodliceSenate$Chamber;"⟩, 16) := ⟨⟨by decide +kernel, by decide +kernel⟩, x_u1 (List.mem_of_getElem? (i := 12) rfl), x_u2 (List.mem_of_getElem? (i := 170) rfl), x_u2 (List.mem_of_getElem? (i := 171) rfl)⟩
set_option maxRecDepth 100000 in
theorem lw_p9 : lw_okq (⟨"WoodliceSenate$Chamber", "begin", "(LWoodliceSenate$Bill;)V"⟩, 18) := ⟨⟨by decide +kernel, by decide +kernel⟩, x_u1 (List.mem_of_getElem? (i := 82) rfl), x_u2 (List.mem_of_getElem? (i := 178) rfl), x_u2 (List.mem_of_getElem? (i := 179) rfl)⟩
set_option maxRecDepth 100000 in
theorem lw_p10 : lw_okq (⟨"WoodliceSenate$Chamber", "doEvents", "(LWoodliceSenate$Bill;I)V"⟩, 18) := ⟨⟨by decide +kernel, by decide +kernel⟩, x_u1 (List.mem_of_getElem? (i := 82) rfl), x_u2 (List.mem_of_getElem? (i := 184) rfl), x_u2 (List.mem_of_getElem? (i := 185) rfl)⟩
set_option maxRecDepth 100000 in
theorem lw_p11 : lw_okq (⟨"WoodliceSenate$Chamber", "lift", "(I)V"⟩, 18) := ⟨⟨by decide +kernel, by decide +kernel⟩, x_u1 (List.mem_of_getElem? (i := 82) rfl), x_u2 (List.mem_of_getElem? (i := 188) rfl), x_u2 (List.mem_of_getElem? (i := 189) rfl)⟩
set_option maxRecDepth 100000 in
theorem lw_p12 : lw_okq (⟨"WoodliceSenate$Chamber", "pepper", "(I)V"⟩, 18) := ⟨⟨by decide +kernel, by decide +kernel⟩, x_u1 (List.mem_of_getElem? (i := 82) rfl), x_u2 (List.mem_of_getElem? (i := 192) rfl), x_u2 (List.mem_of_getElem? (i := 193) rfl)⟩
set_option maxRecDepth 100000 in
theorem lw_p13 : lw_okq (⟨"WoodliceSenate$Chamber", "wetAll", "(I)V"⟩, 18) := ⟨⟨by decide +kernel, by decide +kernel⟩, x_u1 (List.mem_of_getElem? (i := 82) rfl), x_u2 (List.mem_of_getElem? (i := 196) rfl), x_u2 (List.mem_of_getElem? (i := 197) rfl)⟩
set_option maxRecDepth 100000 in
theorem lw_p14 : lw_okq (⟨"WoodliceSenate$Chamber", "letMembersGo", "(I)V"⟩, 18) := ⟨⟨by decide +kernel, by decide +kernel⟩, x_u1 (List.mem_of_getElem? (i := 82) rfl), x_u2 (List.mem_of_getElem? (i := 200) rfl), x_u2 (List.mem_of_getElem? (i := 201) rfl)⟩
set_option maxRecDepth 100000 in
theorem lw_p15 : lw_okq (⟨"WoodliceSenate$Chamber", "step", "(I)Z"⟩, 18) := ⟨⟨by decide +kernel, by decide +kernel⟩, x_u1 (List.mem_of_getElem? (i := 82) rfl), x_u2 (List.mem_of_getElem? (i := 207) rfl), x_u2 (List.mem_of_getElem? (i := 208) rfl)⟩
def lw_privs_1 : List (MethodName × Nat) := [(⟨"WoodliceSenate", "readStone", "()V"⟩, 16), (⟨"WoodliceSenate", "faultOfStone", "()I"⟩, 16), (⟨"WoodliceSenate", "textOf", "(I)LWoodliceSenate$Text;"⟩, 16), (⟨"WoodliceSenate", "readTexts", "()V"⟩, 16), (⟨"WoodliceSenate", "readMembers", "()V"⟩, 16), (⟨"WoodliceSenate", "faultOfMembers", "()I"⟩, 16), (⟨"WoodliceSenate", "sheetOf", "(I)LWoodliceSenate$Sheet;"⟩, 16), (⟨"WoodliceSenate", "finding", "(I)I"⟩, 16), (⟨"WoodliceSenate", "chamberAsTold", "()LWoodliceSenate$Chamber;"⟩, 16), (⟨"WoodliceSenate$Chamber", "begin", "(LWoodliceSenate$Bill;)V"⟩, 18), (⟨"WoodliceSenate$Chamber", "doEvents", "(LWoodliceSenate$Bill;I)V"⟩, 18), (⟨"WoodliceSenate$Chamber", "lift", "(I)V"⟩, 18), (⟨"WoodliceSenate$Chamber", "pepper", "(I)V"⟩, 18), (⟨"WoodliceSenate$Chamber", "wetAll", "(I)V"⟩, 18), (⟨"WoodliceSenate$Chamber", "letMembersGo", "(I)V"⟩, 18), (⟨"WoodliceSenate$Chamber", "step", "(I)Z"⟩, 18)]
theorem lw_r1 : ∀ q ∈ lw_privs_1, lw_okq q := List.forall_mem_cons.mpr ⟨lw_p0, List.forall_mem_cons.mpr ⟨lw_p1, List.forall_mem_cons.mpr ⟨lw_p2, List.forall_mem_cons.mpr ⟨lw_p3, List.forall_mem_cons.mpr ⟨lw_p4, List.forall_mem_cons.mpr ⟨lw_p5, List.forall_mem_cons.mpr ⟨lw_p6, List.forall_mem_cons.mpr ⟨lw_p7, List.forall_mem_cons.mpr ⟨lw_p8, List.forall_mem_cons.mpr ⟨lw_p9, List.forall_mem_cons.mpr ⟨lw_p10, List.forall_mem_cons.mpr ⟨lw_p11, List.forall_mem_cons.mpr ⟨lw_p12, List.forall_mem_cons.mpr ⟨lw_p13, List.forall_mem_cons.mpr ⟨lw_p14, List.forall_mem_cons.mpr ⟨lw_p15, fun _ h => absurd h List.not_mem_nil⟩⟩⟩⟩⟩⟩⟩⟩⟩⟩⟩⟩⟩⟩⟩⟩
set_option maxRecDepth 100000 in
theorem lw_p16 : lw_okq (⟨"WoodliceSenate$Chamber", "passOver", "(I)V"⟩, 18) := ⟨⟨by decide +kernel, by decide +kernel⟩, x_u1 (List.mem_of_getElem? (i := 82) rfl), x_u2 (List.mem_of_getElem? (i := 211) rfl), x_u2 (List.mem_of_getElem? (i := 212) rfl)⟩
set_option maxRecDepth 100000 in
theorem lw_p17 : lw_okq (⟨"WoodliceSenate$Chamber", "countHeads", "()V"⟩, 18) := ⟨⟨by decide +kernel, by decide +kernel⟩, x_u1 (List.mem_of_getElem? (i := 82) rfl), x_u2 (List.mem_of_getElem? (i := 215) rfl), x_u2 (List.mem_of_getElem? (i := 216) rfl)⟩
set_option maxRecDepth 100000 in
theorem lw_p18 : lw_okq (⟨"WoodliceSenate$Chamber", "dryCrowdedPlaces", "()V"⟩, 18) := ⟨⟨by decide +kernel, by decide +kernel⟩, x_u1 (List.mem_of_getElem? (i := 82) rfl), x_u2 (List.mem_of_getElem? (i := 220) rfl), x_u2 (List.mem_of_getElem? (i := 221) rfl)⟩
set_option maxRecDepth 100000 in
theorem lw_p19 : lw_okq (⟨"WoodliceSenate$Chamber", "divide", "(I)V"⟩, 18) := ⟨⟨by decide +kernel, by decide +kernel⟩, x_u1 (List.mem_of_getElem? (i := 82) rfl), x_u2 (List.mem_of_getElem? (i := 224) rfl), x_u2 (List.mem_of_getElem? (i := 225) rfl)⟩
set_option maxRecDepth 100000 in
theorem lw_p20 : lw_okq (⟨"WoodliceSenate$Chamber", "keepRecord", "(I)V"⟩, 18) := ⟨⟨by decide +kernel, by decide +kernel⟩, x_u1 (List.mem_of_getElem? (i := 82) rfl), x_u2 (List.mem_of_getElem? (i := 229) rfl), x_u2 (List.mem_of_getElem? (i := 230) rfl)⟩
set_option maxRecDepth 100000 in
theorem lw_p21 : lw_okq (⟨"WoodliceSenate", "findCrowd", "(LWoodliceSenate$Chamber;)V"⟩, 16) := ⟨⟨by decide +kernel, by decide +kernel⟩, x_u1 (List.mem_of_getElem? (i := 12) rfl), x_u3 (List.mem_of_getElem? (i := 46) rfl), x_u3 (List.mem_of_getElem? (i := 47) rfl)⟩
set_option maxRecDepth 100000 in
theorem lw_p22 : lw_okq (⟨"WoodliceSenate", "findSeat", "(I)V"⟩, 16) := ⟨⟨by decide +kernel, by decide +kernel⟩, x_u1 (List.mem_of_getElem? (i := 12) rfl), x_u3 (List.mem_of_getElem? (i := 74) rfl), x_u3 (List.mem_of_getElem? (i := 75) rfl)⟩
set_option maxRecDepth 100000 in
theorem lw_p23 : lw_okq (⟨"WoodliceSenate", "findDust", "(I)V"⟩, 16) := ⟨⟨by decide +kernel, by decide +kernel⟩, x_u1 (List.mem_of_getElem? (i := 12) rfl), x_u3 (List.mem_of_getElem? (i := 95) rfl), x_u3 (List.mem_of_getElem? (i := 96) rfl)⟩
set_option maxRecDepth 100000 in
theorem lw_p24 : lw_okq (⟨"WoodliceSenate", "sitWithOneMore", "(III)V"⟩, 16) := ⟨⟨by decide +kernel, by decide +kernel⟩, x_u1 (List.mem_of_getElem? (i := 12) rfl), x_u3 (List.mem_of_getElem? (i := 99) rfl), x_u3 (List.mem_of_getElem? (i := 100) rfl)⟩
set_option maxRecDepth 100000 in
theorem lw_p25 : lw_okq (⟨"WoodliceSenate", "findBoy", "()V"⟩, 16) := ⟨⟨by decide +kernel, by decide +kernel⟩, x_u1 (List.mem_of_getElem? (i := 12) rfl), x_u3 (List.mem_of_getElem? (i := 107) rfl), x_u3 (List.mem_of_getElem? (i := 108) rfl)⟩
set_option maxRecDepth 100000 in
theorem lw_p26 : lw_okq (⟨"WoodliceSenate", "findCalm", "()V"⟩, 16) := ⟨⟨by decide +kernel, by decide +kernel⟩, x_u1 (List.mem_of_getElem? (i := 12) rfl), x_u3 (List.mem_of_getElem? (i := 115) rfl), x_u3 (List.mem_of_getElem? (i := 116) rfl)⟩
set_option maxRecDepth 100000 in
theorem lw_p27 : lw_okq (⟨"WoodliceSenate", "isCalmWithout", "(I)Z"⟩, 16) := ⟨⟨by decide +kernel, by decide +kernel⟩, x_u1 (List.mem_of_getElem? (i := 12) rfl), x_u3 (List.mem_of_getElem? (i := 119) rfl), x_u3 (List.mem_of_getElem? (i := 120) rfl)⟩
set_option maxRecDepth 100000 in
theorem lw_p28 : lw_okq (⟨"WoodliceSenate", "setCalm", "(III)V"⟩, 16) := ⟨⟨by decide +kernel, by decide +kernel⟩, x_u1 (List.mem_of_getElem? (i := 12) rfl), x_u3 (List.mem_of_getElem? (i := 124) rfl), x_u3 (List.mem_of_getElem? (i := 125) rfl)⟩
set_option maxRecDepth 100000 in
theorem lw_p29 : lw_okq (⟨"WoodliceSenate", "sortsThatFit", "(I)I"⟩, 16) := ⟨⟨by decide +kernel, by decide +kernel⟩, x_u1 (List.mem_of_getElem? (i := 12) rfl), x_u3 (List.mem_of_getElem? (i := 153) rfl), x_u3 (List.mem_of_getElem? (i := 154) rfl)⟩
set_option maxRecDepth 100000 in
theorem lw_p30 : lw_okq (⟨"WoodliceSenate", "firstsThatFit", "(I)I"⟩, 16) := ⟨⟨by decide +kernel, by decide +kernel⟩, x_u1 (List.mem_of_getElem? (i := 12) rfl), x_u3 (List.mem_of_getElem? (i := 165) rfl), x_u3 (List.mem_of_getElem? (i := 166) rfl)⟩
set_option maxRecDepth 100000 in
theorem lw_p31 : lw_okq (⟨"WoodliceSenate", "hourToAsk", "(I)I"⟩, 16) := ⟨⟨by decide +kernel, by decide +kernel⟩, x_u1 (List.mem_of_getElem? (i := 12) rfl), x_u3 (List.mem_of_getElem? (i := 173) rfl), x_u3 (List.mem_of_getElem? (i := 174) rfl)⟩
def lw_privs_2 : List (MethodName × Nat) := [(⟨"WoodliceSenate$Chamber", "passOver", "(I)V"⟩, 18), (⟨"WoodliceSenate$Chamber", "countHeads", "()V"⟩, 18), (⟨"WoodliceSenate$Chamber", "dryCrowdedPlaces", "()V"⟩, 18), (⟨"WoodliceSenate$Chamber", "divide", "(I)V"⟩, 18), (⟨"WoodliceSenate$Chamber", "keepRecord", "(I)V"⟩, 18), (⟨"WoodliceSenate", "findCrowd", "(LWoodliceSenate$Chamber;)V"⟩, 16), (⟨"WoodliceSenate", "findSeat", "(I)V"⟩, 16), (⟨"WoodliceSenate", "findDust", "(I)V"⟩, 16), (⟨"WoodliceSenate", "sitWithOneMore", "(III)V"⟩, 16), (⟨"WoodliceSenate", "findBoy", "()V"⟩, 16), (⟨"WoodliceSenate", "findCalm", "()V"⟩, 16), (⟨"WoodliceSenate", "isCalmWithout", "(I)Z"⟩, 16), (⟨"WoodliceSenate", "setCalm", "(III)V"⟩, 16), (⟨"WoodliceSenate", "sortsThatFit", "(I)I"⟩, 16), (⟨"WoodliceSenate", "firstsThatFit", "(I)I"⟩, 16), (⟨"WoodliceSenate", "hourToAsk", "(I)I"⟩, 16)]
theorem lw_r2 : ∀ q ∈ lw_privs_2, lw_okq q := List.forall_mem_cons.mpr ⟨lw_p16, List.forall_mem_cons.mpr ⟨lw_p17, List.forall_mem_cons.mpr ⟨lw_p18, List.forall_mem_cons.mpr ⟨lw_p19, List.forall_mem_cons.mpr ⟨lw_p20, List.forall_mem_cons.mpr ⟨lw_p21, List.forall_mem_cons.mpr ⟨lw_p22, List.forall_mem_cons.mpr ⟨lw_p23, List.forall_mem_cons.mpr ⟨lw_p24, List.forall_mem_cons.mpr ⟨lw_p25, List.forall_mem_cons.mpr ⟨lw_p26, List.forall_mem_cons.mpr ⟨lw_p27, List.forall_mem_cons.mpr ⟨lw_p28, List.forall_mem_cons.mpr ⟨lw_p29, List.forall_mem_cons.mpr ⟨lw_p30, List.forall_mem_cons.mpr ⟨lw_p31, fun _ h => absurd h List.not_mem_nil⟩⟩⟩⟩⟩⟩⟩⟩⟩⟩⟩⟩⟩⟩⟩⟩
set_option maxRecDepth 100000 in
theorem lw_p32 : lw_okq (⟨"WoodliceSenate", "mostAlike", "(II)I"⟩, 16) := ⟨⟨by decide +kernel, by decide +kernel⟩, x_u1 (List.mem_of_getElem? (i := 12) rfl), x_u3 (List.mem_of_getElem? (i := 177) rfl), x_u3 (List.mem_of_getElem? (i := 178) rfl)⟩
set_option maxRecDepth 100000 in
theorem lw_p33 : lw_okq (⟨"WoodliceSenate", "waysCarried", "(II)J"⟩, 16) := ⟨⟨by decide +kernel, by decide +kernel⟩, x_u1 (List.mem_of_getElem? (i := 12) rfl), x_u3 (List.mem_of_getElem? (i := 187) rfl), x_u3 (List.mem_of_getElem? (i := 188) rfl)⟩
set_option maxRecDepth 100000 in
theorem lw_p34 : lw_okq (⟨"WoodliceSenate", "waysOf", "(II)J"⟩, 16) := ⟨⟨by decide +kernel, by decide +kernel⟩, x_u1 (List.mem_of_getElem? (i := 12) rfl), x_u3 (List.mem_of_getElem? (i := 191) rfl), x_u3 (List.mem_of_getElem? (i := 192) rfl)⟩
set_option maxRecDepth 100000 in
theorem lw_p35 : lw_okq (⟨"WoodliceSenate", "sitAges", "(II)V"⟩, 16) := ⟨⟨by decide +kernel, by decide +kernel⟩, x_u1 (List.mem_of_getElem? (i := 12) rfl), x_u3 (List.mem_of_getElem? (i := 199) rfl), x_u3 (List.mem_of_getElem? (i := 200) rfl)⟩
set_option maxRecDepth 100000 in
theorem lw_p36 : lw_okq (⟨"WoodliceSenate", "itemRefusal", "(LWoodliceSenate$Sheet;II)I"⟩, 16) := ⟨⟨by decide +kernel, by decide +kernel⟩, x_u1 (List.mem_of_getElem? (i := 12) rfl), x_u3 (List.mem_of_getElem? (i := 231) rfl), x_u3 (List.mem_of_getElem? (i := 232) rfl)⟩
set_option maxRecDepth 100000 in
theorem lw_p37 : lw_okq (⟨"WoodliceSenate", "digestOfPlaces", "(J)J"⟩, 16) := ⟨⟨by decide +kernel, by decide +kernel⟩, x_u1 (List.mem_of_getElem? (i := 12) rfl), x_u4 (List.mem_of_getElem? (i := 46) rfl), x_u4 (List.mem_of_getElem? (i := 47) rfl)⟩
set_option maxRecDepth 100000 in
theorem lw_p38 : lw_okq (⟨"WoodliceSenate", "digestOfMembers", "(J)J"⟩, 16) := ⟨⟨by decide +kernel, by decide +kernel⟩, x_u1 (List.mem_of_getElem? (i := 12) rfl), x_u4 (List.mem_of_getElem? (i := 52) rfl), x_u4 (List.mem_of_getElem? (i := 53) rfl)⟩
set_option maxRecDepth 100000 in
theorem lw_p39 : lw_okq (⟨"WoodliceSenate", "digestOfHours", "(J)J"⟩, 16) := ⟨⟨by decide +kernel, by decide +kernel⟩, x_u1 (List.mem_of_getElem? (i := 12) rfl), x_u4 (List.mem_of_getElem? (i := 59) rfl), x_u4 (List.mem_of_getElem? (i := 60) rfl)⟩
set_option maxRecDepth 100000 in
theorem lw_p40 : lw_okq (⟨"WoodliceSenate", "digestOfPlans", "(J)J"⟩, 16) := ⟨⟨by decide +kernel, by decide +kernel⟩, x_u1 (List.mem_of_getElem? (i := 12) rfl), x_u4 (List.mem_of_getElem? (i := 69) rfl), x_u4 (List.mem_of_getElem? (i := 70) rfl)⟩
set_option maxRecDepth 100000 in
theorem lw_p41 : lw_okq (⟨"WoodliceSenateModel", "faultOf", "(I)I"⟩, 42) := ⟨⟨by decide +kernel, by decide +kernel⟩, x_u4 (List.mem_of_getElem? (i := 75) rfl), x_u4 (List.mem_of_getElem? (i := 230) rfl), x_u4 (List.mem_of_getElem? (i := 231) rfl)⟩
set_option maxRecDepth 100000 in
theorem lw_p42 : lw_okq (⟨"WoodliceSenateModel", "readsStone", "()I"⟩, 42) := ⟨⟨by decide +kernel, by decide +kernel⟩, x_u4 (List.mem_of_getElem? (i := 75) rfl), x_u4 (List.mem_of_getElem? (i := 234) rfl), x_u4 (List.mem_of_getElem? (i := 235) rfl)⟩
set_option maxRecDepth 100000 in
theorem lw_p43 : lw_okq (⟨"WoodliceSenateModel", "readsMembers", "()I"⟩, 42) := ⟨⟨by decide +kernel, by decide +kernel⟩, x_u4 (List.mem_of_getElem? (i := 75) rfl), x_u4 (List.mem_of_getElem? (i := 238) rfl), x_u4 (List.mem_of_getElem? (i := 239) rfl)⟩
set_option maxRecDepth 100000 in
theorem lw_p44 : lw_okq (⟨"WoodliceSenateModel", "readsMember", "(II)I"⟩, 42) := ⟨⟨by decide +kernel, by decide +kernel⟩, x_u4 (List.mem_of_getElem? (i := 75) rfl), x_u5 (List.mem_of_getElem? (i := 2) rfl), x_u5 (List.mem_of_getElem? (i := 3) rfl)⟩
set_option maxRecDepth 100000 in
theorem lw_p45 : lw_okq (⟨"WoodliceSenateModel", "sortAt", "(I)I"⟩, 42) := ⟨⟨by decide +kernel, by decide +kernel⟩, x_u4 (List.mem_of_getElem? (i := 75) rfl), x_u5 (List.mem_of_getElem? (i := 6) rfl), x_u5 (List.mem_of_getElem? (i := 7) rfl)⟩
set_option maxRecDepth 100000 in
theorem lw_p46 : lw_okq (⟨"WoodliceSenateModel", "byteAt", "(I)I"⟩, 42) := ⟨⟨by decide +kernel, by decide +kernel⟩, x_u4 (List.mem_of_getElem? (i := 75) rfl), x_u5 (List.mem_of_getElem? (i := 10) rfl), x_u5 (List.mem_of_getElem? (i := 11) rfl)⟩
set_option maxRecDepth 100000 in
theorem lw_p47 : lw_okq (⟨"WoodliceSenateModel", "stoneOf", "(I)I"⟩, 42) := ⟨⟨by decide +kernel, by decide +kernel⟩, x_u4 (List.mem_of_getElem? (i := 75) rfl), x_u5 (List.mem_of_getElem? (i := 21) rfl), x_u5 (List.mem_of_getElem? (i := 22) rfl)⟩
def lw_privs_3 : List (MethodName × Nat) := [(⟨"WoodliceSenate", "mostAlike", "(II)I"⟩, 16), (⟨"WoodliceSenate", "waysCarried", "(II)J"⟩, 16), (⟨"WoodliceSenate", "waysOf", "(II)J"⟩, 16), (⟨"WoodliceSenate", "sitAges", "(II)V"⟩, 16), (⟨"WoodliceSenate", "itemRefusal", "(LWoodliceSenate$Sheet;II)I"⟩, 16), (⟨"WoodliceSenate", "digestOfPlaces", "(J)J"⟩, 16), (⟨"WoodliceSenate", "digestOfMembers", "(J)J"⟩, 16), (⟨"WoodliceSenate", "digestOfHours", "(J)J"⟩, 16), (⟨"WoodliceSenate", "digestOfPlans", "(J)J"⟩, 16), (⟨"WoodliceSenateModel", "faultOf", "(I)I"⟩, 42), (⟨"WoodliceSenateModel", "readsStone", "()I"⟩, 42), (⟨"WoodliceSenateModel", "readsMembers", "()I"⟩, 42), (⟨"WoodliceSenateModel", "readsMember", "(II)I"⟩, 42), (⟨"WoodliceSenateModel", "sortAt", "(I)I"⟩, 42), (⟨"WoodliceSenateModel", "byteAt", "(I)I"⟩, 42), (⟨"WoodliceSenateModel", "stoneOf", "(I)I"⟩, 42)]
theorem lw_r3 : ∀ q ∈ lw_privs_3, lw_okq q := List.forall_mem_cons.mpr ⟨lw_p32, List.forall_mem_cons.mpr ⟨lw_p33, List.forall_mem_cons.mpr ⟨lw_p34, List.forall_mem_cons.mpr ⟨lw_p35, List.forall_mem_cons.mpr ⟨lw_p36, List.forall_mem_cons.mpr ⟨lw_p37, List.forall_mem_cons.mpr ⟨lw_p38, List.forall_mem_cons.mpr ⟨lw_p39, List.forall_mem_cons.mpr ⟨lw_p40, List.forall_mem_cons.mpr ⟨lw_p41, List.forall_mem_cons.mpr ⟨lw_p42, List.forall_mem_cons.mpr ⟨lw_p43, List.forall_mem_cons.mpr ⟨lw_p44, List.forall_mem_cons.mpr ⟨lw_p45, List.forall_mem_cons.mpr ⟨lw_p46, List.forall_mem_cons.mpr ⟨lw_p47, fun _ h => absurd h List.not_mem_nil⟩⟩⟩⟩⟩⟩⟩⟩⟩⟩⟩⟩⟩⟩⟩⟩
set_option maxRecDepth 100000 in
theorem lw_p48 : lw_okq (⟨"WoodliceSenateModel", "reads", "()V"⟩, 42) := ⟨⟨by decide +kernel, by decide +kernel⟩, x_u4 (List.mem_of_getElem? (i := 75) rfl), x_u5 (List.mem_of_getElem? (i := 25) rfl), x_u5 (List.mem_of_getElem? (i := 26) rfl)⟩
set_option maxRecDepth 100000 in
theorem lw_p49 : lw_okq (⟨"WoodliceSenateModel", "isMember", "(I)Z"⟩, 42) := ⟨⟨by decide +kernel, by decide +kernel⟩, x_u4 (List.mem_of_getElem? (i := 75) rfl), x_u5 (List.mem_of_getElem? (i := 33) rfl), x_u5 (List.mem_of_getElem? (i := 34) rfl)⟩
set_option maxRecDepth 100000 in
theorem lw_p50 : lw_okq (⟨"WoodliceSenateModel", "memberOf", "(II)I"⟩, 42) := ⟨⟨by decide +kernel, by decide +kernel⟩, x_u4 (List.mem_of_getElem? (i := 75) rfl), x_u5 (List.mem_of_getElem? (i := 37) rfl), x_u5 (List.mem_of_getElem? (i := 38) rfl)⟩
set_option maxRecDepth 100000 in
theorem lw_p51 : lw_okq (⟨"WoodliceSenateModel", "meets", "(I)I"⟩, 42) := ⟨⟨by decide +kernel, by decide +kernel⟩, x_u4 (List.mem_of_getElem? (i := 75) rfl), x_u5 (List.mem_of_getElem? (i := 59) rfl), x_u5 (List.mem_of_getElem? (i := 60) rfl)⟩
set_option maxRecDepth 100000 in
theorem lw_p52 : lw_okq (⟨"WoodliceSenateModel", "dampOf", "(III)I"⟩, 42) := ⟨⟨by decide +kernel, by decide +kernel⟩, x_u4 (List.mem_of_getElem? (i := 75) rfl), x_u5 (List.mem_of_getElem? (i := 68) rfl), x_u5 (List.mem_of_getElem? (i := 69) rfl)⟩
set_option maxRecDepth 100000 in
theorem lw_p53 : lw_okq (⟨"WoodliceSenateModel", "runsTold", "()V"⟩, 42) := ⟨⟨by decide +kernel, by decide +kernel⟩, x_u4 (List.mem_of_getElem? (i := 75) rfl), x_u5 (List.mem_of_getElem? (i := 72) rfl), x_u5 (List.mem_of_getElem? (i := 73) rfl)⟩
set_option maxRecDepth 100000 in
theorem lw_p54 : lw_okq (⟨"WoodliceSenateModel", "asTold", "()V"⟩, 42) := ⟨⟨by decide +kernel, by decide +kernel⟩, x_u4 (List.mem_of_getElem? (i := 75) rfl), x_u5 (List.mem_of_getElem? (i := 76) rfl), x_u5 (List.mem_of_getElem? (i := 77) rfl)⟩
set_option maxRecDepth 100000 in
theorem lw_p55 : lw_okq (⟨"WoodliceSenateModel", "runs", "()V"⟩, 42) := ⟨⟨by decide +kernel, by decide +kernel⟩, x_u4 (List.mem_of_getElem? (i := 75) rfl), x_u5 (List.mem_of_getElem? (i := 80) rfl), x_u5 (List.mem_of_getElem? (i := 81) rfl)⟩
set_option maxRecDepth 100000 in
theorem lw_p56 : lw_okq (⟨"WoodliceSenateModel", "goesBy", "(I)V"⟩, 42) := ⟨⟨by decide +kernel, by decide +kernel⟩, x_u4 (List.mem_of_getElem? (i := 75) rfl), x_u5 (List.mem_of_getElem? (i := 84) rfl), x_u5 (List.mem_of_getElem? (i := 85) rfl)⟩
set_option maxRecDepth 100000 in
theorem lw_p57 : lw_okq (⟨"WoodliceSenateModel", "befalls", "(I)V"⟩, 42) := ⟨⟨by decide +kernel, by decide +kernel⟩, x_u4 (List.mem_of_getElem? (i := 75) rfl), x_u5 (List.mem_of_getElem? (i := 91) rfl), x_u5 (List.mem_of_getElem? (i := 92) rfl)⟩
set_option maxRecDepth 100000 in
theorem lw_p58 : lw_okq (⟨"WoodliceSenateModel", "lifts", "(I)V"⟩, 42) := ⟨⟨by decide +kernel, by decide +kernel⟩, x_u4 (List.mem_of_getElem? (i := 75) rfl), x_u5 (List.mem_of_getElem? (i := 95) rfl), x_u5 (List.mem_of_getElem? (i := 96) rfl)⟩
set_option maxRecDepth 100000 in
theorem lw_p59 : lw_okq (⟨"WoodliceSenateModel", "peppers", "(I)V"⟩, 42) := ⟨⟨by decide +kernel, by decide +kernel⟩, x_u4 (List.mem_of_getElem? (i := 75) rfl), x_u5 (List.mem_of_getElem? (i := 99) rfl), x_u5 (List.mem_of_getElem? (i := 100) rfl)⟩
set_option maxRecDepth 100000 in
theorem lw_p60 : lw_okq (⟨"WoodliceSenateModel", "wets", "(I)V"⟩, 42) := ⟨⟨by decide +kernel, by decide +kernel⟩, x_u4 (List.mem_of_getElem? (i := 75) rfl), x_u5 (List.mem_of_getElem? (i := 103) rfl), x_u5 (List.mem_of_getElem? (i := 104) rfl)⟩
set_option maxRecDepth 100000 in
theorem lw_p61 : lw_okq (⟨"WoodliceSenateModel", "walks", "(II)V"⟩, 42) := ⟨⟨by decide +kernel, by decide +kernel⟩, x_u4 (List.mem_of_getElem? (i := 75) rfl), x_u5 (List.mem_of_getElem? (i := 107) rfl), x_u5 (List.mem_of_getElem? (i := 108) rfl)⟩
set_option maxRecDepth 100000 in
theorem lw_p62 : lw_okq (⟨"WoodliceSenateModel", "isRolled", "(II)Z"⟩, 42) := ⟨⟨by decide +kernel, by decide +kernel⟩, x_u4 (List.mem_of_getElem? (i := 75) rfl), x_u5 (List.mem_of_getElem? (i := 111) rfl), x_u5 (List.mem_of_getElem? (i := 112) rfl)⟩
set_option maxRecDepth 100000 in
theorem lw_p63 : lw_okq (⟨"WoodliceSenateModel", "steps", "(II)V"⟩, 42) := ⟨⟨by decide +kernel, by decide +kernel⟩, x_u4 (List.mem_of_getElem? (i := 75) rfl), x_u5 (List.mem_of_getElem? (i := 115) rfl), x_u5 (List.mem_of_getElem? (i := 116) rfl)⟩
def lw_privs_4 : List (MethodName × Nat) := [(⟨"WoodliceSenateModel", "reads", "()V"⟩, 42), (⟨"WoodliceSenateModel", "isMember", "(I)Z"⟩, 42), (⟨"WoodliceSenateModel", "memberOf", "(II)I"⟩, 42), (⟨"WoodliceSenateModel", "meets", "(I)I"⟩, 42), (⟨"WoodliceSenateModel", "dampOf", "(III)I"⟩, 42), (⟨"WoodliceSenateModel", "runsTold", "()V"⟩, 42), (⟨"WoodliceSenateModel", "asTold", "()V"⟩, 42), (⟨"WoodliceSenateModel", "runs", "()V"⟩, 42), (⟨"WoodliceSenateModel", "goesBy", "(I)V"⟩, 42), (⟨"WoodliceSenateModel", "befalls", "(I)V"⟩, 42), (⟨"WoodliceSenateModel", "lifts", "(I)V"⟩, 42), (⟨"WoodliceSenateModel", "peppers", "(I)V"⟩, 42), (⟨"WoodliceSenateModel", "wets", "(I)V"⟩, 42), (⟨"WoodliceSenateModel", "walks", "(II)V"⟩, 42), (⟨"WoodliceSenateModel", "isRolled", "(II)Z"⟩, 42), (⟨"WoodliceSenateModel", "steps", "(II)V"⟩, 42)]
theorem lw_r4 : ∀ q ∈ lw_privs_4, lw_okq q := List.forall_mem_cons.mpr ⟨lw_p48, List.forall_mem_cons.mpr ⟨lw_p49, List.forall_mem_cons.mpr ⟨lw_p50, List.forall_mem_cons.mpr ⟨lw_p51, List.forall_mem_cons.mpr ⟨lw_p52, List.forall_mem_cons.mpr ⟨lw_p53, List.forall_mem_cons.mpr ⟨lw_p54, List.forall_mem_cons.mpr ⟨lw_p55, List.forall_mem_cons.mpr ⟨lw_p56, List.forall_mem_cons.mpr ⟨lw_p57, List.forall_mem_cons.mpr ⟨lw_p58, List.forall_mem_cons.mpr ⟨lw_p59, List.forall_mem_cons.mpr ⟨lw_p60, List.forall_mem_cons.mpr ⟨lw_p61, List.forall_mem_cons.mpr ⟨lw_p62, List.forall_mem_cons.mpr ⟨lw_p63, fun _ h => absurd h List.not_mem_nil⟩⟩⟩⟩⟩⟩⟩⟩⟩⟩⟩⟩⟩⟩⟩⟩
set_option maxRecDepth 100000 in
theorem lw_p64 : lw_okq (⟨"WoodliceSenateModel", "dampNow", "(I)I"⟩, 42) := ⟨⟨by decide +kernel, by decide +kernel⟩, x_u4 (List.mem_of_getElem? (i := 75) rfl), x_u5 (List.mem_of_getElem? (i := 119) rfl), x_u5 (List.mem_of_getElem? (i := 120) rfl)⟩
set_option maxRecDepth 100000 in
theorem lw_p65 : lw_okq (⟨"WoodliceSenateModel", "passesOver", "(II)V"⟩, 42) := ⟨⟨by decide +kernel, by decide +kernel⟩, x_u4 (List.mem_of_getElem? (i := 75) rfl), x_u5 (List.mem_of_getElem? (i := 123) rfl), x_u5 (List.mem_of_getElem? (i := 124) rfl)⟩
set_option maxRecDepth 100000 in
theorem lw_p66 : lw_okq (⟨"WoodliceSenateModel", "manyAt", "(II)I"⟩, 42) := ⟨⟨by decide +kernel, by decide +kernel⟩, x_u4 (List.mem_of_getElem? (i := 75) rfl), x_u5 (List.mem_of_getElem? (i := 127) rfl), x_u5 (List.mem_of_getElem? (i := 128) rfl)⟩
set_option maxRecDepth 100000 in
theorem lw_p67 : lw_okq (⟨"WoodliceSenateModel", "divides", "(I)V"⟩, 42) := ⟨⟨by decide +kernel, by decide +kernel⟩, x_u4 (List.mem_of_getElem? (i := 75) rfl), x_u5 (List.mem_of_getElem? (i := 131) rfl), x_u5 (List.mem_of_getElem? (i := 132) rfl)⟩
set_option maxRecDepth 100000 in
theorem lw_p68 : lw_okq (⟨"WoodliceSenateModel", "atOf", "(III)I"⟩, 42) := ⟨⟨by decide +kernel, by decide +kernel⟩, x_u4 (List.mem_of_getElem? (i := 75) rfl), x_u5 (List.mem_of_getElem? (i := 139) rfl), x_u5 (List.mem_of_getElem? (i := 140) rfl)⟩
set_option maxRecDepth 100000 in
theorem lw_p69 : lw_okq (⟨"WoodliceSenateModel", "houseOf", "(II)I"⟩, 42) := ⟨⟨by decide +kernel, by decide +kernel⟩, x_u4 (List.mem_of_getElem? (i := 75) rfl), x_u5 (List.mem_of_getElem? (i := 147) rfl), x_u5 (List.mem_of_getElem? (i := 148) rfl)⟩
set_option maxRecDepth 100000 in
theorem lw_p70 : lw_okq (⟨"WoodliceSenateModel", "isCarried", "(I)Z"⟩, 42) := ⟨⟨by decide +kernel, by decide +kernel⟩, x_u4 (List.mem_of_getElem? (i := 75) rfl), x_u5 (List.mem_of_getElem? (i := 151) rfl), x_u5 (List.mem_of_getElem? (i := 152) rfl)⟩
set_option maxRecDepth 100000 in
theorem lw_p71 : lw_okq (⟨"WoodliceSenateModel", "governmentsOf", "()I"⟩, 42) := ⟨⟨by decide +kernel, by decide +kernel⟩, x_u4 (List.mem_of_getElem? (i := 75) rfl), x_u5 (List.mem_of_getElem? (i := 159) rfl), x_u5 (List.mem_of_getElem? (i := 160) rfl)⟩
set_option maxRecDepth 100000 in
theorem lw_p72 : lw_okq (⟨"WoodliceSenateModel", "governmentsNow", "()I"⟩, 42) := ⟨⟨by decide +kernel, by decide +kernel⟩, x_u4 (List.mem_of_getElem? (i := 75) rfl), x_u5 (List.mem_of_getElem? (i := 163) rfl), x_u5 (List.mem_of_getElem? (i := 164) rfl)⟩
set_option maxRecDepth 100000 in
theorem lw_p73 : lw_okq (⟨"WoodliceSenateModel", "carriedOf", "()I"⟩, 42) := ⟨⟨by decide +kernel, by decide +kernel⟩, x_u4 (List.mem_of_getElem? (i := 75) rfl), x_u5 (List.mem_of_getElem? (i := 171) rfl), x_u5 (List.mem_of_getElem? (i := 172) rfl)⟩
set_option maxRecDepth 100000 in
theorem lw_p74 : lw_okq (⟨"WoodliceSenateModel", "carriedNow", "()I"⟩, 42) := ⟨⟨by decide +kernel, by decide +kernel⟩, x_u4 (List.mem_of_getElem? (i := 75) rfl), x_u5 (List.mem_of_getElem? (i := 175) rfl), x_u5 (List.mem_of_getElem? (i := 176) rfl)⟩
set_option maxRecDepth 100000 in
theorem lw_p75 : lw_okq (⟨"WoodliceSenateModel", "crowdOf", "(I)I"⟩, 42) := ⟨⟨by decide +kernel, by decide +kernel⟩, x_u4 (List.mem_of_getElem? (i := 75) rfl), x_u5 (List.mem_of_getElem? (i := 183) rfl), x_u5 (List.mem_of_getElem? (i := 184) rfl)⟩
set_option maxRecDepth 100000 in
theorem lw_p76 : lw_okq (⟨"WoodliceSenateModel", "oratorOf", "()I"⟩, 42) := ⟨⟨by decide +kernel, by decide +kernel⟩, x_u4 (List.mem_of_getElem? (i := 75) rfl), x_u5 (List.mem_of_getElem? (i := 191) rfl), x_u5 (List.mem_of_getElem? (i := 192) rfl)⟩
set_option maxRecDepth 100000 in
theorem lw_p77 : lw_okq (⟨"WoodliceSenateModel", "stillOf", "()I"⟩, 42) := ⟨⟨by decide +kernel, by decide +kernel⟩, x_u4 (List.mem_of_getElem? (i := 75) rfl), x_u5 (List.mem_of_getElem? (i := 199) rfl), x_u5 (List.mem_of_getElem? (i := 200) rfl)⟩
set_option maxRecDepth 100000 in
theorem lw_p78 : lw_okq (⟨"WoodliceSenateModel", "seatOf", "(II)I"⟩, 42) := ⟨⟨by decide +kernel, by decide +kernel⟩, x_u4 (List.mem_of_getElem? (i := 75) rfl), x_u5 (List.mem_of_getElem? (i := 207) rfl), x_u5 (List.mem_of_getElem? (i := 208) rfl)⟩
set_option maxRecDepth 100000 in
theorem lw_p79 : lw_okq (⟨"WoodliceSenateModel", "dustOf", "(II)I"⟩, 42) := ⟨⟨by decide +kernel, by decide +kernel⟩, x_u4 (List.mem_of_getElem? (i := 75) rfl), x_u5 (List.mem_of_getElem? (i := 215) rfl), x_u5 (List.mem_of_getElem? (i := 216) rfl)⟩
def lw_privs_5 : List (MethodName × Nat) := [(⟨"WoodliceSenateModel", "dampNow", "(I)I"⟩, 42), (⟨"WoodliceSenateModel", "passesOver", "(II)V"⟩, 42), (⟨"WoodliceSenateModel", "manyAt", "(II)I"⟩, 42), (⟨"WoodliceSenateModel", "divides", "(I)V"⟩, 42), (⟨"WoodliceSenateModel", "atOf", "(III)I"⟩, 42), (⟨"WoodliceSenateModel", "houseOf", "(II)I"⟩, 42), (⟨"WoodliceSenateModel", "isCarried", "(I)Z"⟩, 42), (⟨"WoodliceSenateModel", "governmentsOf", "()I"⟩, 42), (⟨"WoodliceSenateModel", "governmentsNow", "()I"⟩, 42), (⟨"WoodliceSenateModel", "carriedOf", "()I"⟩, 42), (⟨"WoodliceSenateModel", "carriedNow", "()I"⟩, 42), (⟨"WoodliceSenateModel", "crowdOf", "(I)I"⟩, 42), (⟨"WoodliceSenateModel", "oratorOf", "()I"⟩, 42), (⟨"WoodliceSenateModel", "stillOf", "()I"⟩, 42), (⟨"WoodliceSenateModel", "seatOf", "(II)I"⟩, 42), (⟨"WoodliceSenateModel", "dustOf", "(II)I"⟩, 42)]
theorem lw_r5 : ∀ q ∈ lw_privs_5, lw_okq q := List.forall_mem_cons.mpr ⟨lw_p64, List.forall_mem_cons.mpr ⟨lw_p65, List.forall_mem_cons.mpr ⟨lw_p66, List.forall_mem_cons.mpr ⟨lw_p67, List.forall_mem_cons.mpr ⟨lw_p68, List.forall_mem_cons.mpr ⟨lw_p69, List.forall_mem_cons.mpr ⟨lw_p70, List.forall_mem_cons.mpr ⟨lw_p71, List.forall_mem_cons.mpr ⟨lw_p72, List.forall_mem_cons.mpr ⟨lw_p73, List.forall_mem_cons.mpr ⟨lw_p74, List.forall_mem_cons.mpr ⟨lw_p75, List.forall_mem_cons.mpr ⟨lw_p76, List.forall_mem_cons.mpr ⟨lw_p77, List.forall_mem_cons.mpr ⟨lw_p78, List.forall_mem_cons.mpr ⟨lw_p79, fun _ h => absurd h List.not_mem_nil⟩⟩⟩⟩⟩⟩⟩⟩⟩⟩⟩⟩⟩⟩⟩⟩
set_option maxRecDepth 100000 in
theorem lw_p80 : lw_okq (⟨"WoodliceSenateModel", "more", "(III)V"⟩, 42) := ⟨⟨by decide +kernel, by decide +kernel⟩, x_u4 (List.mem_of_getElem? (i := 75) rfl), x_u5 (List.mem_of_getElem? (i := 219) rfl), x_u5 (List.mem_of_getElem? (i := 220) rfl)⟩
set_option maxRecDepth 100000 in
theorem lw_p81 : lw_okq (⟨"WoodliceSenateModel", "boyOf", "(I)I"⟩, 42) := ⟨⟨by decide +kernel, by decide +kernel⟩, x_u4 (List.mem_of_getElem? (i := 75) rfl), x_u5 (List.mem_of_getElem? (i := 227) rfl), x_u5 (List.mem_of_getElem? (i := 228) rfl)⟩
set_option maxRecDepth 100000 in
theorem lw_p82 : lw_okq (⟨"WoodliceSenateModel", "calmBy", "()I"⟩, 42) := ⟨⟨by decide +kernel, by decide +kernel⟩, x_u4 (List.mem_of_getElem? (i := 75) rfl), x_u5 (List.mem_of_getElem? (i := 235) rfl), x_u5 (List.mem_of_getElem? (i := 236) rfl)⟩
set_option maxRecDepth 100000 in
theorem lw_p83 : lw_okq (⟨"WoodliceSenateModel", "isCalm", "(I)Z"⟩, 42) := ⟨⟨by decide +kernel, by decide +kernel⟩, x_u4 (List.mem_of_getElem? (i := 75) rfl), x_u5 (List.mem_of_getElem? (i := 239) rfl), x_u6 (List.mem_of_getElem? (i := 0) rfl)⟩
set_option maxRecDepth 100000 in
theorem lw_p84 : lw_okq (⟨"WoodliceSenateModel", "ofRow", "(II)I"⟩, 42) := ⟨⟨by decide +kernel, by decide +kernel⟩, x_u4 (List.mem_of_getElem? (i := 75) rfl), x_u6 (List.mem_of_getElem? (i := 3) rfl), x_u6 (List.mem_of_getElem? (i := 4) rfl)⟩
set_option maxRecDepth 100000 in
theorem lw_p85 : lw_okq (⟨"WoodliceSenateModel", "neverNow", "()I"⟩, 42) := ⟨⟨by decide +kernel, by decide +kernel⟩, x_u4 (List.mem_of_getElem? (i := 75) rfl), x_u6 (List.mem_of_getElem? (i := 19) rfl), x_u6 (List.mem_of_getElem? (i := 20) rfl)⟩
set_option maxRecDepth 100000 in
theorem lw_p86 : lw_okq (⟨"WoodliceSenateModel", "isSeen", "()Z"⟩, 42) := ⟨⟨by decide +kernel, by decide +kernel⟩, x_u4 (List.mem_of_getElem? (i := 75) rfl), x_u6 (List.mem_of_getElem? (i := 23) rfl), x_u6 (List.mem_of_getElem? (i := 24) rfl)⟩
set_option maxRecDepth 100000 in
theorem lw_p87 : lw_okq (⟨"WoodliceSenateModel", "sortsBy", "(I)I"⟩, 42) := ⟨⟨by decide +kernel, by decide +kernel⟩, x_u4 (List.mem_of_getElem? (i := 75) rfl), x_u6 (List.mem_of_getElem? (i := 31) rfl), x_u6 (List.mem_of_getElem? (i := 32) rfl)⟩
set_option maxRecDepth 100000 in
theorem lw_p88 : lw_okq (⟨"WoodliceSenateModel", "wetBy", "(I)I"⟩, 42) := ⟨⟨by decide +kernel, by decide +kernel⟩, x_u4 (List.mem_of_getElem? (i := 75) rfl), x_u6 (List.mem_of_getElem? (i := 39) rfl), x_u6 (List.mem_of_getElem? (i := 40) rfl)⟩
set_option maxRecDepth 100000 in
theorem lw_p89 : lw_okq (⟨"WoodliceSenateModel", "askOf", "(I)I"⟩, 42) := ⟨⟨by decide +kernel, by decide +kernel⟩, x_u4 (List.mem_of_getElem? (i := 75) rfl), x_u6 (List.mem_of_getElem? (i := 47) rfl), x_u6 (List.mem_of_getElem? (i := 48) rfl)⟩
set_option maxRecDepth 100000 in
theorem lw_p90 : lw_okq (⟨"WoodliceSenateModel", "chanceOf", "(III)J"⟩, 42) := ⟨⟨by decide +kernel, by decide +kernel⟩, x_u4 (List.mem_of_getElem? (i := 75) rfl), x_u6 (List.mem_of_getElem? (i := 55) rfl), x_u6 (List.mem_of_getElem? (i := 56) rfl)⟩
set_option maxRecDepth 100000 in
theorem lw_p91 : lw_okq (⟨"WoodliceSenateModel", "agesOf", "(III)I"⟩, 42) := ⟨⟨by decide +kernel, by decide +kernel⟩, x_u4 (List.mem_of_getElem? (i := 75) rfl), x_u6 (List.mem_of_getElem? (i := 70) rfl), x_u6 (List.mem_of_getElem? (i := 71) rfl)⟩
set_option maxRecDepth 100000 in
theorem lw_p92 : lw_okq (⟨"WoodliceSenateModel", "lacks", "(III)I"⟩, 42) := ⟨⟨by decide +kernel, by decide +kernel⟩, x_u4 (List.mem_of_getElem? (i := 75) rfl), x_u6 (List.mem_of_getElem? (i := 87) rfl), x_u6 (List.mem_of_getElem? (i := 88) rfl)⟩
set_option maxRecDepth 100000 in
theorem lw_p93 : lw_okq (⟨"WoodliceSenateModel", "keep", "(III)V"⟩, 42) := ⟨⟨by decide +kernel, by decide +kernel⟩, x_u4 (List.mem_of_getElem? (i := 75) rfl), x_u6 (List.mem_of_getElem? (i := 91) rfl), x_u6 (List.mem_of_getElem? (i := 92) rfl)⟩
set_option maxRecDepth 100000 in
theorem lw_p94 : lw_okq (⟨"WoodliceSenateModel", "sumOf", "(I)I"⟩, 42) := ⟨⟨by decide +kernel, by decide +kernel⟩, x_u4 (List.mem_of_getElem? (i := 75) rfl), x_u6 (List.mem_of_getElem? (i := 112) rfl), x_u6 (List.mem_of_getElem? (i := 113) rfl)⟩
set_option maxRecDepth 100000 in
theorem lw_p95 : lw_okq (⟨"WoodliceSenateModel", "placeDigest", "(JI)J"⟩, 42) := ⟨⟨by decide +kernel, by decide +kernel⟩, x_u4 (List.mem_of_getElem? (i := 75) rfl), x_u6 (List.mem_of_getElem? (i := 123) rfl), x_u6 (List.mem_of_getElem? (i := 124) rfl)⟩
def lw_privs_6 : List (MethodName × Nat) := [(⟨"WoodliceSenateModel", "more", "(III)V"⟩, 42), (⟨"WoodliceSenateModel", "boyOf", "(I)I"⟩, 42), (⟨"WoodliceSenateModel", "calmBy", "()I"⟩, 42), (⟨"WoodliceSenateModel", "isCalm", "(I)Z"⟩, 42), (⟨"WoodliceSenateModel", "ofRow", "(II)I"⟩, 42), (⟨"WoodliceSenateModel", "neverNow", "()I"⟩, 42), (⟨"WoodliceSenateModel", "isSeen", "()Z"⟩, 42), (⟨"WoodliceSenateModel", "sortsBy", "(I)I"⟩, 42), (⟨"WoodliceSenateModel", "wetBy", "(I)I"⟩, 42), (⟨"WoodliceSenateModel", "askOf", "(I)I"⟩, 42), (⟨"WoodliceSenateModel", "chanceOf", "(III)J"⟩, 42), (⟨"WoodliceSenateModel", "agesOf", "(III)I"⟩, 42), (⟨"WoodliceSenateModel", "lacks", "(III)I"⟩, 42), (⟨"WoodliceSenateModel", "keep", "(III)V"⟩, 42), (⟨"WoodliceSenateModel", "sumOf", "(I)I"⟩, 42), (⟨"WoodliceSenateModel", "placeDigest", "(JI)J"⟩, 42)]
theorem lw_r6 : ∀ q ∈ lw_privs_6, lw_okq q := List.forall_mem_cons.mpr ⟨lw_p80, List.forall_mem_cons.mpr ⟨lw_p81, List.forall_mem_cons.mpr ⟨lw_p82, List.forall_mem_cons.mpr ⟨lw_p83, List.forall_mem_cons.mpr ⟨lw_p84, List.forall_mem_cons.mpr ⟨lw_p85, List.forall_mem_cons.mpr ⟨lw_p86, List.forall_mem_cons.mpr ⟨lw_p87, List.forall_mem_cons.mpr ⟨lw_p88, List.forall_mem_cons.mpr ⟨lw_p89, List.forall_mem_cons.mpr ⟨lw_p90, List.forall_mem_cons.mpr ⟨lw_p91, List.forall_mem_cons.mpr ⟨lw_p92, List.forall_mem_cons.mpr ⟨lw_p93, List.forall_mem_cons.mpr ⟨lw_p94, List.forall_mem_cons.mpr ⟨lw_p95, fun _ h => absurd h List.not_mem_nil⟩⟩⟩⟩⟩⟩⟩⟩⟩⟩⟩⟩⟩⟩⟩⟩
set_option maxRecDepth 100000 in
theorem lw_p96 : lw_okq (⟨"WoodliceSenateModel", "memberDigest", "(JI)J"⟩, 42) := ⟨⟨by decide +kernel, by decide +kernel⟩, x_u4 (List.mem_of_getElem? (i := 75) rfl), x_u6 (List.mem_of_getElem? (i := 127) rfl), x_u6 (List.mem_of_getElem? (i := 128) rfl)⟩
set_option maxRecDepth 100000 in
theorem lw_p97 : lw_okq (⟨"WoodliceSenateModel", "hourDigest", "(JII)J"⟩, 42) := ⟨⟨by decide +kernel, by decide +kernel⟩, x_u4 (List.mem_of_getElem? (i := 75) rfl), x_u6 (List.mem_of_getElem? (i := 131) rfl), x_u6 (List.mem_of_getElem? (i := 132) rfl)⟩
def lw_privs_7 : List (MethodName × Nat) := [(⟨"WoodliceSenateModel", "memberDigest", "(JI)J"⟩, 42), (⟨"WoodliceSenateModel", "hourDigest", "(JII)J"⟩, 42)]
theorem lw_r7 : ∀ q ∈ lw_privs_7, lw_okq q := List.forall_mem_cons.mpr ⟨lw_p96, List.forall_mem_cons.mpr ⟨lw_p97, fun _ h => absurd h List.not_mem_nil⟩⟩
def lw_privs : List (MethodName × Nat) := lw_privs_1 ++ (lw_privs_2 ++ (lw_privs_3 ++ (lw_privs_4 ++ (lw_privs_5 ++ (lw_privs_6 ++ (lw_privs_7))))))
def lw_tbl : List Cond := k2_sels lw_privs ++ tables_1
set_option maxRecDepth 100000 in
theorem lw_privs_ok : ∀ q ∈ lw_privs, lw_okq q := by
  show ∀ q ∈ lw_privs_1 ++ (lw_privs_2 ++ (lw_privs_3 ++ (lw_privs_4 ++ (lw_privs_5 ++ (lw_privs_6 ++ (lw_privs_7)))))), lw_okq q
  exact List.forall_mem_append.mpr ⟨lw_r1, List.forall_mem_append.mpr ⟨lw_r2, List.forall_mem_append.mpr ⟨lw_r3, List.forall_mem_append.mpr ⟨lw_r4, List.forall_mem_append.mpr ⟨lw_r5, List.forall_mem_append.mpr ⟨lw_r6, lw_r7⟩⟩⟩⟩⟩⟩
-- ===== end of PART A; then your names; then what follows =====
def RX0 : String := "WoodliceSenate$Best"
def TX0 : u_T := fun k => match k with
  | 0 => ("WoodliceSenate$Best", "which", "I", false)
  | _ => ("WoodliceSenate$Best", "value", "I", false)
def tyX0 : Nat → FieldType := fun k => match k with
  | 0 => .int
  | _ => .int
theorem nmX0 : ∀ a, a < 2 → ∀ b, b < 2 → a ≠ b → (TX0 a).2.1 ≠ (TX0 b).2.1 := by decide +kernel
theorem tyX0_ok : ∀ k, k < 2 → parseFieldDescriptor (TX0 k).2.2.1 = some (tyX0 k) := by decide +kernel
abbrev cX0_init : ByteArray := prog_2_method_1_code
def yX0_init : MethodName := ⟨RX0, "<init>", "()V"⟩
abbrev cX0_start : ByteArray := prog_2_method_2_code
def yX0_start : MethodName := ⟨RX0, "start", "()V"⟩
abbrev cX0_offer : ByteArray := prog_2_method_3_code
def yX0_offer : MethodName := ⟨RX0, "offer", "(II)V"⟩
def RX1 : String := "WoodliceSenate$Bill"
def TX1 : u_T := fun k => match k with
  | 0 => ("WoodliceSenate$Bill", "damp", "[I", true)
  | 1 => ("WoodliceSenate$Bill", "sorts", "[I", true)
  | 2 => ("WoodliceSenate$Bill", "places", "[I", true)
  | 3 => ("WoodliceSenate$Bill", "uprights", "[I", true)
  | 4 => ("WoodliceSenate$Bill", "members", "I", false)
  | 5 => ("WoodliceSenate$Bill", "kinds", "[I", true)
  | 6 => ("WoodliceSenate$Bill", "hours", "[I", true)
  | 7 => ("WoodliceSenate$Bill", "spots", "[I", true)
  | _ => ("WoodliceSenate$Bill", "events", "I", false)
def tyX1 : Nat → FieldType := fun k => match k with
  | 0 => .array .int
  | 1 => .array .int
  | 2 => .array .int
  | 3 => .array .int
  | 4 => .int
  | 5 => .array .int
  | 6 => .array .int
  | 7 => .array .int
  | _ => .int
theorem nmX1 : ∀ a, a < 9 → ∀ b, b < 9 → a ≠ b → (TX1 a).2.1 ≠ (TX1 b).2.1 := by decide +kernel
theorem tyX1_ok : ∀ k, k < 9 → parseFieldDescriptor (TX1 k).2.2.1 = some (tyX1 k) := by decide +kernel
abbrev cX1_init : ByteArray := prog_3_method_1_code
def yX1_init : MethodName := ⟨RX1, "<init>", "()V"⟩
abbrev cX1_takeAll : ByteArray := prog_3_method_2_code
def yX1_takeAll : MethodName := ⟨RX1, "takeAll", "(LWoodliceSenate$Bill;)V"⟩
abbrev cX1_takeEvents : ByteArray := prog_3_method_3_code
def yX1_takeEvents : MethodName := ⟨RX1, "takeEvents", "(LWoodliceSenate$Bill;I)V"⟩
abbrev cX1_addEvent : ByteArray := prog_3_method_4_code
def yX1_addEvent : MethodName := ⟨RX1, "addEvent", "(III)V"⟩
abbrev cX1_dropEvents : ByteArray := prog_3_method_5_code
def yX1_dropEvents : MethodName := ⟨RX1, "dropEvents", "(I)V"⟩
abbrev cX1_setDamp : ByteArray := prog_3_method_6_code
def yX1_setDamp : MethodName := ⟨RX1, "setDamp", "(II)V"⟩
abbrev cX1_dampAt : ByteArray := prog_3_method_7_code
def yX1_dampAt : MethodName := ⟨RX1, "dampAt", "(I)I"⟩
abbrev cX1_dropMembers : ByteArray := prog_3_method_8_code
def yX1_dropMembers : MethodName := ⟨RX1, "dropMembers", "()V"⟩
abbrev cX1_addMember : ByteArray := prog_3_method_9_code
def yX1_addMember : MethodName := ⟨RX1, "addMember", "(III)V"⟩
abbrev cX1_hasMember : ByteArray := prog_3_method_10_code
def yX1_hasMember : MethodName := ⟨RX1, "hasMember", "(I)Z"⟩
abbrev cX1_sortOf : ByteArray := prog_3_method_11_code
def yX1_sortOf : MethodName := ⟨RX1, "sortOf", "(I)I"⟩
abbrev cX1_setSort : ByteArray := prog_3_method_12_code
def yX1_setSort : MethodName := ⟨RX1, "setSort", "(II)V"⟩
abbrev cX1_placeOf : ByteArray := prog_3_method_13_code
def yX1_placeOf : MethodName := ⟨RX1, "placeOf", "(I)I"⟩
abbrev cX1_setPlace : ByteArray := prog_3_method_14_code
def yX1_setPlace : MethodName := ⟨RX1, "setPlace", "(II)V"⟩
abbrev cX1_uprightOf : ByteArray := prog_3_method_15_code
def yX1_uprightOf : MethodName := ⟨RX1, "uprightOf", "(I)I"⟩
def RX2 : String := "WoodliceSenate$Chamber"
def TX2 : u_T := fun k => match k with
  | 0 => ("WoodliceSenate$Chamber", "damp", "[I", true)
  | 1 => ("WoodliceSenate$Chamber", "heads", "[I", true)
  | 2 => ("WoodliceSenate$Chamber", "sorts", "[I", true)
  | 3 => ("WoodliceSenate$Chamber", "places", "[I", true)
  | 4 => ("WoodliceSenate$Chamber", "uprights", "[I", true)
  | 5 => ("WoodliceSenate$Chamber", "rolledUntil", "[I", true)
  | 6 => ("WoodliceSenate$Chamber", "rolled", "[Z", true)
  | 7 => ("WoodliceSenate$Chamber", "speeches", "[I", true)
  | 8 => ("WoodliceSenate$Chamber", "members", "I", false)
  | 9 => ("WoodliceSenate$Chamber", "movers", "I", false)
  | 10 => ("WoodliceSenate$Chamber", "dampBehind", "[[I", true)
  | 11 => ("WoodliceSenate$Chamber", "headsBehind", "[[I", true)
  | 12 => ("WoodliceSenate$Chamber", "placeBehind", "[[I", true)
  | 13 => ("WoodliceSenate$Chamber", "uprightBehind", "[[I", true)
  | 14 => ("WoodliceSenate$Chamber", "rolledBehind", "[[I", true)
  | 15 => ("WoodliceSenate$Chamber", "speechesBehind", "[[I", true)
  | 16 => ("WoodliceSenate$Chamber", "ayes", "[I", true)
  | _ => ("WoodliceSenate$Chamber", "noes", "[I", true)
def tyX2 : Nat → FieldType := fun k => match k with
  | 0 => .array .int
  | 1 => .array .int
  | 2 => .array .int
  | 3 => .array .int
  | 4 => .array .int
  | 5 => .array .int
  | 6 => .array .boolean
  | 7 => .array .int
  | 8 => .int
  | 9 => .int
  | 10 => .array (.array .int)
  | 11 => .array (.array .int)
  | 12 => .array (.array .int)
  | 13 => .array (.array .int)
  | 14 => .array (.array .int)
  | 15 => .array (.array .int)
  | 16 => .array .int
  | _ => .array .int
theorem nmX2 : ∀ a, a < 18 → ∀ b, b < 18 → a ≠ b → (TX2 a).2.1 ≠ (TX2 b).2.1 := by decide +kernel
theorem tyX2_ok : ∀ k, k < 18 → parseFieldDescriptor (TX2 k).2.2.1 = some (tyX2 k) := by decide +kernel
abbrev cX2_init : ByteArray := prog_4_method_1_code
def yX2_init : MethodName := ⟨RX2, "<init>", "()V"⟩
abbrev cX2_sit : ByteArray := prog_4_method_2_code
def yX2_sit : MethodName := ⟨RX2, "sit", "(LWoodliceSenate$Bill;I)V"⟩
abbrev cX2_begin : ByteArray := prog_4_method_3_code
def yX2_begin : MethodName := ⟨RX2, "begin", "(LWoodliceSenate$Bill;)V"⟩
abbrev cX2_doEvents : ByteArray := prog_4_method_4_code
def yX2_doEvents : MethodName := ⟨RX2, "doEvents", "(LWoodliceSenate$Bill;I)V"⟩
abbrev cX2_lift : ByteArray := prog_4_method_5_code
def yX2_lift : MethodName := ⟨RX2, "lift", "(I)V"⟩
abbrev cX2_pepper : ByteArray := prog_4_method_6_code
def yX2_pepper : MethodName := ⟨RX2, "pepper", "(I)V"⟩
abbrev cX2_wetAll : ByteArray := prog_4_method_7_code
def yX2_wetAll : MethodName := ⟨RX2, "wetAll", "(I)V"⟩
abbrev cX2_letMembersGo : ByteArray := prog_4_method_8_code
def yX2_letMembersGo : MethodName := ⟨RX2, "letMembersGo", "(I)V"⟩
abbrev cX2_stepsOf : ByteArray := prog_4_method_9_code
def yX2_stepsOf : MethodName := ⟨RX2, "stepsOf", "(II)I"⟩
abbrev cX2_step : ByteArray := prog_4_method_10_code
def yX2_step : MethodName := ⟨RX2, "step", "(I)Z"⟩
abbrev cX2_passOver : ByteArray := prog_4_method_11_code
def yX2_passOver : MethodName := ⟨RX2, "passOver", "(I)V"⟩
abbrev cX2_countHeads : ByteArray := prog_4_method_12_code
def yX2_countHeads : MethodName := ⟨RX2, "countHeads", "()V"⟩
abbrev cX2_dryCrowdedPlaces : ByteArray := prog_4_method_13_code
def yX2_dryCrowdedPlaces : MethodName := ⟨RX2, "dryCrowdedPlaces", "()V"⟩
abbrev cX2_divide : ByteArray := prog_4_method_14_code
def yX2_divide : MethodName := ⟨RX2, "divide", "(I)V"⟩
abbrev cX2_keepRecord : ByteArray := prog_4_method_15_code
def yX2_keepRecord : MethodName := ⟨RX2, "keepRecord", "(I)V"⟩
abbrev cX2_dampOf : ByteArray := prog_4_method_16_code
def yX2_dampOf : MethodName := ⟨RX2, "dampOf", "(II)I"⟩
abbrev cX2_headsAt : ByteArray := prog_4_method_17_code
def yX2_headsAt : MethodName := ⟨RX2, "headsAt", "(II)I"⟩
abbrev cX2_ofMember : ByteArray := prog_4_method_18_code
def yX2_ofMember : MethodName := ⟨RX2, "ofMember", "(III)I"⟩
abbrev cX2_ayesOf : ByteArray := prog_4_method_19_code
def yX2_ayesOf : MethodName := ⟨RX2, "ayesOf", "(I)I"⟩
abbrev cX2_noesOf : ByteArray := prog_4_method_20_code
def yX2_noesOf : MethodName := ⟨RX2, "noesOf", "(I)I"⟩
abbrev cX2_carries : ByteArray := prog_4_method_21_code
def yX2_carries : MethodName := ⟨RX2, "carries", "(I)Z"⟩
abbrev cX2_carriedInAll : ByteArray := prog_4_method_22_code
def yX2_carriedInAll : MethodName := ⟨RX2, "carriedInAll", "()I"⟩
abbrev cX2_governmentsInAll : ByteArray := prog_4_method_23_code
def yX2_governmentsInAll : MethodName := ⟨RX2, "governmentsInAll", "()I"⟩
abbrev cX2_ayesInAll : ByteArray := prog_4_method_24_code
def yX2_ayesInAll : MethodName := ⟨RX2, "ayesInAll", "()I"⟩
abbrev cX2_speechesInAll : ByteArray := prog_4_method_25_code
def yX2_speechesInAll : MethodName := ⟨RX2, "speechesInAll", "()I"⟩
abbrev cX2_stillMembers : ByteArray := prog_4_method_26_code
def yX2_stillMembers : MethodName := ⟨RX2, "stillMembers", "()I"⟩
def RX3 : String := "WoodliceSenate$Sheet"
def TX3 : u_T := fun k => match k with
  | 0 => ("WoodliceSenate$Sheet", "items", "[I", true)
  | 1 => ("WoodliceSenate$Sheet", "form", "I", false)
  | _ => ("WoodliceSenate$Sheet", "size", "I", false)
def tyX3 : Nat → FieldType := fun k => match k with
  | 0 => .array .int
  | 1 => .int
  | _ => .int
theorem nmX3 : ∀ a, a < 3 → ∀ b, b < 3 → a ≠ b → (TX3 a).2.1 ≠ (TX3 b).2.1 := by decide +kernel
theorem tyX3_ok : ∀ k, k < 3 → parseFieldDescriptor (TX3 k).2.2.1 = some (tyX3 k) := by decide +kernel
abbrev cX3_init : ByteArray := prog_5_method_1_code
def yX3_init : MethodName := ⟨RX3, "<init>", "()V"⟩
abbrev cX3_renew : ByteArray := prog_5_method_2_code
def yX3_renew : MethodName := ⟨RX3, "renew", "(II)V"⟩
abbrev cX3_isLost : ByteArray := prog_5_method_3_code
def yX3_isLost : MethodName := ⟨RX3, "isLost", "()Z"⟩
abbrev cX3_hasItem : ByteArray := prog_5_method_4_code
def yX3_hasItem : MethodName := ⟨RX3, "hasItem", "(I)Z"⟩
abbrev cX3_hasRun : ByteArray := prog_5_method_5_code
def yX3_hasRun : MethodName := ⟨RX3, "hasRun", "(II)Z"⟩
abbrev cX3_item : ByteArray := prog_5_method_6_code
def yX3_item : MethodName := ⟨RX3, "item", "(I)I"⟩
abbrev cX3_setItem : ByteArray := prog_5_method_7_code
def yX3_setItem : MethodName := ⟨RX3, "setItem", "(II)V"⟩
abbrev cX3_takeRun : ByteArray := prog_5_method_8_code
def yX3_takeRun : MethodName := ⟨RX3, "takeRun", "(LWoodliceSenate$Sheet;III)V"⟩
def RX4 : String := "WoodliceSenate$Sightings"
def TX4 : u_T := fun k => match k with
  | 0 => ("WoodliceSenate$Sightings", "hours", "[I", true)
  | 1 => ("WoodliceSenate$Sightings", "members", "[I", true)
  | 2 => ("WoodliceSenate$Sightings", "places", "[I", true)
  | _ => ("WoodliceSenate$Sightings", "size", "I", false)
def tyX4 : Nat → FieldType := fun k => match k with
  | 0 => .array .int
  | 1 => .array .int
  | 2 => .array .int
  | _ => .int
theorem nmX4 : ∀ a, a < 4 → ∀ b, b < 4 → a ≠ b → (TX4 a).2.1 ≠ (TX4 b).2.1 := by decide +kernel
theorem tyX4_ok : ∀ k, k < 4 → parseFieldDescriptor (TX4 k).2.2.1 = some (tyX4 k) := by decide +kernel
abbrev cX4_init : ByteArray := prog_6_method_1_code
def yX4_init : MethodName := ⟨RX4, "<init>", "()V"⟩
abbrev cX4_add : ByteArray := prog_6_method_2_code
def yX4_add : MethodName := ⟨RX4, "add", "(III)Z"⟩
abbrev cX4_comeOutSo : ByteArray := prog_6_method_3_code
def yX4_comeOutSo : MethodName := ⟨RX4, "comeOutSo", "(LWoodliceSenate$Chamber;)Z"⟩
def RX5 : String := "WoodliceSenate$Text"
def TX5 : u_T := fun k => match k with
  | 0 => ("WoodliceSenate$Text", "bytes", "[I", true)
  | _ => ("WoodliceSenate$Text", "size", "I", false)
def tyX5 : Nat → FieldType := fun k => match k with
  | 0 => .array .int
  | _ => .int
theorem nmX5 : ∀ a, a < 2 → ∀ b, b < 2 → a ≠ b → (TX5 a).2.1 ≠ (TX5 b).2.1 := by decide +kernel
theorem tyX5_ok : ∀ k, k < 2 → parseFieldDescriptor (TX5 k).2.2.1 = some (tyX5 k) := by decide +kernel
abbrev cX5_init : ByteArray := prog_7_method_1_code
def yX5_init : MethodName := ⟨RX5, "<init>", "(I)V"⟩
abbrev cX5_size : ByteArray := prog_7_method_2_code
def yX5_size : MethodName := ⟨RX5, "size", "()I"⟩
abbrev cX5_append : ByteArray := prog_7_method_3_code
def yX5_append : MethodName := ⟨RX5, "append", "(I)Z"⟩
abbrev cX5_cutTo : ByteArray := prog_7_method_4_code
def yX5_cutTo : MethodName := ⟨RX5, "cutTo", "(I)V"⟩
abbrev cX5_byteAt : ByteArray := prog_7_method_5_code
def yX5_byteAt : MethodName := ⟨RX5, "byteAt", "(I)I"⟩
def RX6 : String := "WoodliceSenate"
def TX6 : u_T := fun k => match k with
  | 0 => ("WoodliceSenate", "stoneText", "LWoodliceSenate$Text;", true)
  | 1 => ("WoodliceSenate", "membersText", "LWoodliceSenate$Text;", true)
  | 2 => ("WoodliceSenate", "told", "LWoodliceSenate$Bill;", true)
  | 3 => ("WoodliceSenate", "draft", "LWoodliceSenate$Bill;", true)
  | 4 => ("WoodliceSenate", "sitting", "LWoodliceSenate$Chamber;", true)
  | 5 => ("WoodliceSenate", "trial", "LWoodliceSenate$Chamber;", true)
  | 6 => ("WoodliceSenate", "sightings", "LWoodliceSenate$Sightings;", true)
  | 7 => ("WoodliceSenate", "best", "LWoodliceSenate$Best;", true)
  | 8 => ("WoodliceSenate", "sheets", "[LWoodliceSenate$Sheet;", true)
  | 9 => ("WoodliceSenate", "dampByFirst", "[[I", true)
  | 10 => ("WoodliceSenate", "tally", "[I", true)
  | 11 => ("WoodliceSenate", "stale", "Z", false)
  | 12 => ("WoodliceSenate", "latestFinding", "I", false)
  | 13 => ("WoodliceSenate", "calmSize", "I", false)
  | 14 => ("WoodliceSenate", "calmFirst", "I", false)
  | _ => ("WoodliceSenate", "calmSecond", "I", false)
def tyX6 : Nat → FieldType := fun k => match k with
  | 0 => .object "WoodliceSenate$Text"
  | 1 => .object "WoodliceSenate$Text"
  | 2 => .object "WoodliceSenate$Bill"
  | 3 => .object "WoodliceSenate$Bill"
  | 4 => .object "WoodliceSenate$Chamber"
  | 5 => .object "WoodliceSenate$Chamber"
  | 6 => .object "WoodliceSenate$Sightings"
  | 7 => .object "WoodliceSenate$Best"
  | 8 => .array (.object "WoodliceSenate$Sheet")
  | 9 => .array (.array .int)
  | 10 => .array .int
  | 11 => .boolean
  | 12 => .int
  | 13 => .int
  | 14 => .int
  | _ => .int
theorem nmX6 : ∀ a, a < 16 → ∀ b, b < 16 → a ≠ b → (TX6 a).2.1 ≠ (TX6 b).2.1 := by decide +kernel
theorem tyX6_ok : ∀ k, k < 16 → parseFieldDescriptor (TX6 k).2.2.1 = some (tyX6 k) := by decide +kernel
abbrev cX6_init : ByteArray := prog_1_method_1_code
def yX6_init : MethodName := ⟨RX6, "<init>", "()V"⟩
abbrev cX6_type : ByteArray := prog_1_method_2_code
def yX6_type : MethodName := ⟨RX6, "type", "(II)I"⟩
abbrev cX6_wipe : ByteArray := prog_1_method_3_code
def yX6_wipe : MethodName := ⟨RX6, "wipe", "(I)I"⟩
abbrev cX6_undo : ByteArray := prog_1_method_4_code
def yX6_undo : MethodName := ⟨RX6, "undo", "(I)I"⟩
abbrev cX6_fault : ByteArray := prog_1_method_5_code
def yX6_fault : MethodName := ⟨RX6, "fault", "(I)I"⟩
abbrev cX6_stone : ByteArray := prog_1_method_6_code
def yX6_stone : MethodName := ⟨RX6, "stone", "(I)I"⟩
abbrev cX6_member : ByteArray := prog_1_method_7_code
def yX6_member : MethodName := ⟨RX6, "member", "(II)I"⟩
abbrev cX6_event : ByteArray := prog_1_method_8_code
def yX6_event : MethodName := ⟨RX6, "event", "(III)I"⟩
abbrev cX6_back : ByteArray := prog_1_method_9_code
def yX6_back : MethodName := ⟨RX6, "back", "()I"⟩
abbrev cX6_read : ByteArray := prog_1_method_10_code
def yX6_read : MethodName := ⟨RX6, "read", "(I)I"⟩
abbrev cX6_damp : ByteArray := prog_1_method_11_code
def yX6_damp : MethodName := ⟨RX6, "damp", "(III)I"⟩
abbrev cX6_at : ByteArray := prog_1_method_12_code
def yX6_at : MethodName := ⟨RX6, "at", "(III)I"⟩
abbrev cX6_house : ByteArray := prog_1_method_13_code
def yX6_house : MethodName := ⟨RX6, "house", "(II)I"⟩
abbrev cX6_governments : ByteArray := prog_1_method_14_code
def yX6_governments : MethodName := ⟨RX6, "governments", "()I"⟩
abbrev cX6_carried : ByteArray := prog_1_method_15_code
def yX6_carried : MethodName := ⟨RX6, "carried", "()I"⟩
abbrev cX6_crowd : ByteArray := prog_1_method_16_code
def yX6_crowd : MethodName := ⟨RX6, "crowd", "(I)I"⟩
abbrev cX6_orator : ByteArray := prog_1_method_17_code
def yX6_orator : MethodName := ⟨RX6, "orator", "()I"⟩
abbrev cX6_still : ByteArray := prog_1_method_18_code
def yX6_still : MethodName := ⟨RX6, "still", "()I"⟩
abbrev cX6_seat : ByteArray := prog_1_method_19_code
def yX6_seat : MethodName := ⟨RX6, "seat", "(II)I"⟩
abbrev cX6_dust : ByteArray := prog_1_method_20_code
def yX6_dust : MethodName := ⟨RX6, "dust", "(II)I"⟩
abbrev cX6_boy : ByteArray := prog_1_method_21_code
def yX6_boy : MethodName := ⟨RX6, "boy", "(I)I"⟩
abbrev cX6_calm : ByteArray := prog_1_method_22_code
def yX6_calm : MethodName := ⟨RX6, "calm", "(I)I"⟩
abbrev cX6_seen : ByteArray := prog_1_method_23_code
def yX6_seen : MethodName := ⟨RX6, "seen", "(III)I"⟩
abbrev cX6_forget : ByteArray := prog_1_method_24_code
def yX6_forget : MethodName := ⟨RX6, "forget", "()I"⟩
abbrev cX6_never : ByteArray := prog_1_method_25_code
def yX6_never : MethodName := ⟨RX6, "never", "()I"⟩
abbrev cX6_sort : ByteArray := prog_1_method_26_code
def yX6_sort : MethodName := ⟨RX6, "sort", "(I)I"⟩
abbrev cX6_wet : ByteArray := prog_1_method_27_code
def yX6_wet : MethodName := ⟨RX6, "wet", "(I)I"⟩
abbrev cX6_ask : ByteArray := prog_1_method_28_code
def yX6_ask : MethodName := ⟨RX6, "ask", "(I)I"⟩
abbrev cX6_chance : ByteArray := prog_1_method_29_code
def yX6_chance : MethodName := ⟨RX6, "chance", "(III)J"⟩
abbrev cX6_ages : ByteArray := prog_1_method_30_code
def yX6_ages : MethodName := ⟨RX6, "ages", "(III)I"⟩
abbrev cX6_sheet : ByteArray := prog_1_method_31_code
def yX6_sheet : MethodName := ⟨RX6, "sheet", "(III)I"⟩
abbrev cX6_lose : ByteArray := prog_1_method_32_code
def yX6_lose : MethodName := ⟨RX6, "lose", "(I)I"⟩
abbrev cX6_put : ByteArray := prog_1_method_33_code
def yX6_put : MethodName := ⟨RX6, "put", "(IIII)I"⟩
abbrev cX6_get : ByteArray := prog_1_method_34_code
def yX6_get : MethodName := ⟨RX6, "get", "(III)I"⟩
abbrev cX6_copy : ByteArray := prog_1_method_35_code
def yX6_copy : MethodName := ⟨RX6, "copy", "(IIIII)I"⟩
abbrev cX6_write : ByteArray := prog_1_method_36_code
def yX6_write : MethodName := ⟨RX6, "write", "(II)I"⟩
abbrev cX6_count : ByteArray := prog_1_method_37_code
def yX6_count : MethodName := ⟨RX6, "count", "(I)I"⟩
abbrev cX6_digest : ByteArray := prog_1_method_38_code
def yX6_digest : MethodName := ⟨RX6, "digest", "()J"⟩
abbrev cX6_isPlace : ByteArray := prog_1_method_39_code
def yX6_isPlace : MethodName := ⟨RX6, "isPlace", "(I)Z"⟩
abbrev cX6_isHour : ByteArray := prog_1_method_40_code
def yX6_isHour : MethodName := ⟨RX6, "isHour", "(I)Z"⟩
abbrev cX6_isForm : ByteArray := prog_1_method_41_code
def yX6_isForm : MethodName := ⟨RX6, "isForm", "(I)Z"⟩
abbrev cX6_textOf : ByteArray := prog_1_method_42_code
def yX6_textOf : MethodName := ⟨RX6, "textOf", "(I)LWoodliceSenate$Text;"⟩
abbrev cX6_sheetOf : ByteArray := prog_1_method_43_code
def yX6_sheetOf : MethodName := ⟨RX6, "sheetOf", "(I)LWoodliceSenate$Sheet;"⟩
abbrev cX6_faultOfStone : ByteArray := prog_1_method_44_code
def yX6_faultOfStone : MethodName := ⟨RX6, "faultOfStone", "()I"⟩
abbrev cX6_faultOfMembers : ByteArray := prog_1_method_45_code
def yX6_faultOfMembers : MethodName := ⟨RX6, "faultOfMembers", "()I"⟩
abbrev cX6_canStand : ByteArray := prog_1_method_46_code
def yX6_canStand : MethodName := ⟨RX6, "canStand", "(II)Z"⟩
abbrev cX6_readTexts : ByteArray := prog_1_method_47_code
def yX6_readTexts : MethodName := ⟨RX6, "readTexts", "()V"⟩
abbrev cX6_readStone : ByteArray := prog_1_method_48_code
def yX6_readStone : MethodName := ⟨RX6, "readStone", "()V"⟩
abbrev cX6_readMembers : ByteArray := prog_1_method_49_code
def yX6_readMembers : MethodName := ⟨RX6, "readMembers", "()V"⟩
abbrev cX6_sortNamed : ByteArray := prog_1_method_50_code
def yX6_sortNamed : MethodName := ⟨RX6, "sortNamed", "(I)I"⟩
abbrev cX6_chamberAsTold : ByteArray := prog_1_method_51_code
def yX6_chamberAsTold : MethodName := ⟨RX6, "chamberAsTold", "()LWoodliceSenate$Chamber;"⟩
abbrev cX6_findCrowd : ByteArray := prog_1_method_52_code
def yX6_findCrowd : MethodName := ⟨RX6, "findCrowd", "(LWoodliceSenate$Chamber;)V"⟩
abbrev cX6_findSeat : ByteArray := prog_1_method_53_code
def yX6_findSeat : MethodName := ⟨RX6, "findSeat", "(I)V"⟩
abbrev cX6_findDust : ByteArray := prog_1_method_54_code
def yX6_findDust : MethodName := ⟨RX6, "findDust", "(I)V"⟩
abbrev cX6_findBoy : ByteArray := prog_1_method_55_code
def yX6_findBoy : MethodName := ⟨RX6, "findBoy", "()V"⟩
abbrev cX6_sitWithOneMore : ByteArray := prog_1_method_56_code
def yX6_sitWithOneMore : MethodName := ⟨RX6, "sitWithOneMore", "(III)V"⟩
abbrev cX6_isCalmWithout : ByteArray := prog_1_method_57_code
def yX6_isCalmWithout : MethodName := ⟨RX6, "isCalmWithout", "(I)Z"⟩
abbrev cX6_findCalm : ByteArray := prog_1_method_58_code
def yX6_findCalm : MethodName := ⟨RX6, "findCalm", "()V"⟩
abbrev cX6_setCalm : ByteArray := prog_1_method_59_code
def yX6_setCalm : MethodName := ⟨RX6, "setCalm", "(III)V"⟩
abbrev cX6_sortsThatFit : ByteArray := prog_1_method_60_code
def yX6_sortsThatFit : MethodName := ⟨RX6, "sortsThatFit", "(I)I"⟩
abbrev cX6_firstsThatFit : ByteArray := prog_1_method_61_code
def yX6_firstsThatFit : MethodName := ⟨RX6, "firstsThatFit", "(I)I"⟩
abbrev cX6_hourToAsk : ByteArray := prog_1_method_62_code
def yX6_hourToAsk : MethodName := ⟨RX6, "hourToAsk", "(I)I"⟩
abbrev cX6_mostAlike : ByteArray := prog_1_method_63_code
def yX6_mostAlike : MethodName := ⟨RX6, "mostAlike", "(II)I"⟩
abbrev cX6_waysCarried : ByteArray := prog_1_method_64_code
def yX6_waysCarried : MethodName := ⟨RX6, "waysCarried", "(II)J"⟩
abbrev cX6_waysOf : ByteArray := prog_1_method_65_code
def yX6_waysOf : MethodName := ⟨RX6, "waysOf", "(II)J"⟩
abbrev cX6_sitAges : ByteArray := prog_1_method_66_code
def yX6_sitAges : MethodName := ⟨RX6, "sitAges", "(II)V"⟩
abbrev cX6_nextSeed : ByteArray := prog_1_method_67_code
def yX6_nextSeed : MethodName := ⟨RX6, "nextSeed", "(I)I"⟩
abbrev cX6_lot : ByteArray := prog_1_method_68_code
def yX6_lot : MethodName := ⟨RX6, "lot", "(II)I"⟩
abbrev cX6_finding : ByteArray := prog_1_method_69_code
def yX6_finding : MethodName := ⟨RX6, "finding", "(I)I"⟩
abbrev cX6_itemRefusal : ByteArray := prog_1_method_70_code
def yX6_itemRefusal : MethodName := ⟨RX6, "itemRefusal", "(LWoodliceSenate$Sheet;II)I"⟩
abbrev cX6_digestOfPlaces : ByteArray := prog_1_method_71_code
def yX6_digestOfPlaces : MethodName := ⟨RX6, "digestOfPlaces", "(J)J"⟩
abbrev cX6_digestOfMembers : ByteArray := prog_1_method_72_code
def yX6_digestOfMembers : MethodName := ⟨RX6, "digestOfMembers", "(J)J"⟩
abbrev cX6_digestOfHours : ByteArray := prog_1_method_73_code
def yX6_digestOfHours : MethodName := ⟨RX6, "digestOfHours", "(J)J"⟩
abbrev cX6_digestOfPlans : ByteArray := prog_1_method_74_code
def yX6_digestOfPlans : MethodName := ⟨RX6, "digestOfPlans", "(J)J"⟩
def RX7 : String := "WoodliceSenateModel"
def TX7 : u_T := fun k => match k with
  | 0 => ("WoodliceSenateModel", "typed", "[I", true)
  | 1 => ("WoodliceSenateModel", "texts", "[I", true)
  | 2 => ("WoodliceSenateModel", "figures", "I", false)
  | 3 => ("WoodliceSenateModel", "stoneTold", "[I", true)
  | 4 => ("WoodliceSenateModel", "members", "I", false)
  | 5 => ("WoodliceSenateModel", "sorts", "[I", true)
  | 6 => ("WoodliceSenateModel", "placeTold", "[I", true)
  | 7 => ("WoodliceSenateModel", "upTold", "[I", true)
  | 8 => ("WoodliceSenateModel", "events", "I", false)
  | 9 => ("WoodliceSenateModel", "eventKind", "[I", true)
  | 10 => ("WoodliceSenateModel", "eventHour", "[I", true)
  | 11 => ("WoodliceSenateModel", "eventPlace", "[I", true)
  | 12 => ("WoodliceSenateModel", "eventsNow", "I", false)
  | 13 => ("WoodliceSenateModel", "kindNow", "[I", true)
  | 14 => ("WoodliceSenateModel", "hourNow", "[I", true)
  | 15 => ("WoodliceSenateModel", "placeNow", "[I", true)
  | 16 => ("WoodliceSenateModel", "notEvents", "I", false)
  | 17 => ("WoodliceSenateModel", "damps", "[I", true)
  | 18 => ("WoodliceSenateModel", "at", "[I", true)
  | 19 => ("WoodliceSenateModel", "ups", "[I", true)
  | 20 => ("WoodliceSenateModel", "until", "[I", true)
  | 21 => ("WoodliceSenateModel", "speeches", "[I", true)
  | 22 => ("WoodliceSenateModel", "went", "I", false)
  | 23 => ("WoodliceSenateModel", "dampAt", "[I", true)
  | 24 => ("WoodliceSenateModel", "atAt", "[I", true)
  | 25 => ("WoodliceSenateModel", "upAt", "[I", true)
  | 26 => ("WoodliceSenateModel", "speechAt", "[I", true)
  | 27 => ("WoodliceSenateModel", "rolledAt", "[I", true)
  | 28 => ("WoodliceSenateModel", "ayesAt", "[I", true)
  | 29 => ("WoodliceSenateModel", "noesAt", "[I", true)
  | 30 => ("WoodliceSenateModel", "planRow", "[I", true)
  | 31 => ("WoodliceSenateModel", "seens", "I", false)
  | 32 => ("WoodliceSenateModel", "seenHour", "[I", true)
  | 33 => ("WoodliceSenateModel", "seenWho", "[I", true)
  | 34 => ("WoodliceSenateModel", "seenPlace", "[I", true)
  | 35 => ("WoodliceSenateModel", "dampBy", "[I", true)
  | 36 => ("WoodliceSenateModel", "isThere", "[Z", true)
  | 37 => ("WoodliceSenateModel", "forms", "[I", true)
  | 38 => ("WoodliceSenateModel", "sizes", "[I", true)
  | 39 => ("WoodliceSenateModel", "items", "[I", true)
  | 40 => ("WoodliceSenateModel", "moved", "[I", true)
  | _ => ("WoodliceSenateModel", "finding", "I", false)
def tyX7 : Nat → FieldType := fun k => match k with
  | 0 => .array .int
  | 1 => .array .int
  | 2 => .int
  | 3 => .array .int
  | 4 => .int
  | 5 => .array .int
  | 6 => .array .int
  | 7 => .array .int
  | 8 => .int
  | 9 => .array .int
  | 10 => .array .int
  | 11 => .array .int
  | 12 => .int
  | 13 => .array .int
  | 14 => .array .int
  | 15 => .array .int
  | 16 => .int
  | 17 => .array .int
  | 18 => .array .int
  | 19 => .array .int
  | 20 => .array .int
  | 21 => .array .int
  | 22 => .int
  | 23 => .array .int
  | 24 => .array .int
  | 25 => .array .int
  | 26 => .array .int
  | 27 => .array .int
  | 28 => .array .int
  | 29 => .array .int
  | 30 => .array .int
  | 31 => .int
  | 32 => .array .int
  | 33 => .array .int
  | 34 => .array .int
  | 35 => .array .int
  | 36 => .array .boolean
  | 37 => .array .int
  | 38 => .array .int
  | 39 => .array .int
  | 40 => .array .int
  | _ => .int
theorem nmX7 : ∀ a, a < 42 → ∀ b, b < 42 → a ≠ b → (TX7 a).2.1 ≠ (TX7 b).2.1 := by decide +kernel
theorem tyX7_ok : ∀ k, k < 42 → parseFieldDescriptor (TX7 k).2.2.1 = some (tyX7 k) := by decide +kernel
abbrev cX7_init : ByteArray := prog_9_method_1_code
def yX7_init : MethodName := ⟨RX7, "<init>", "()V"⟩
abbrev cX7_in : ByteArray := prog_9_method_3_code
def yX7_in : MethodName := ⟨RX7, "in", "(III)Z"⟩
abbrev cX7_isIn : ByteArray := prog_9_method_4_code
def yX7_isIn : MethodName := ⟨RX7, "isIn", "(II)Z"⟩
abbrev cX7_no : ByteArray := prog_9_method_5_code
def yX7_no : MethodName := ⟨RX7, "no", "(I)J"⟩
abbrev cX7_lowest : ByteArray := prog_9_method_6_code
def yX7_lowest : MethodName := ⟨RX7, "lowest", "(JJI)J"⟩
abbrev cX7_isText : ByteArray := prog_9_method_7_code
def yX7_isText : MethodName := ⟨RX7, "isText", "(I)Z"⟩
abbrev cX7_isHour : ByteArray := prog_9_method_8_code
def yX7_isHour : MethodName := ⟨RX7, "isHour", "(I)Z"⟩
abbrev cX7_isPlace : ByteArray := prog_9_method_9_code
def yX7_isPlace : MethodName := ⟨RX7, "isPlace", "(I)Z"⟩
abbrev cX7_type : ByteArray := prog_9_method_10_code
def yX7_type : MethodName := ⟨RX7, "type", "(II)I"⟩
abbrev cX7_wipe : ByteArray := prog_9_method_11_code
def yX7_wipe : MethodName := ⟨RX7, "wipe", "(I)I"⟩
abbrev cX7_undo : ByteArray := prog_9_method_12_code
def yX7_undo : MethodName := ⟨RX7, "undo", "(I)I"⟩
abbrev cX7_readsStone : ByteArray := prog_9_method_13_code
def yX7_readsStone : MethodName := ⟨RX7, "readsStone", "()I"⟩
abbrev cX7_byteAt : ByteArray := prog_9_method_14_code
def yX7_byteAt : MethodName := ⟨RX7, "byteAt", "(I)I"⟩
abbrev cX7_sortAt : ByteArray := prog_9_method_15_code
def yX7_sortAt : MethodName := ⟨RX7, "sortAt", "(I)I"⟩
abbrev cX7_readsMember : ByteArray := prog_9_method_16_code
def yX7_readsMember : MethodName := ⟨RX7, "readsMember", "(II)I"⟩
abbrev cX7_readsMembers : ByteArray := prog_9_method_17_code
def yX7_readsMembers : MethodName := ⟨RX7, "readsMembers", "()I"⟩
abbrev cX7_faultOf : ByteArray := prog_9_method_18_code
def yX7_faultOf : MethodName := ⟨RX7, "faultOf", "(I)I"⟩
abbrev cX7_reads : ByteArray := prog_9_method_19_code
def yX7_reads : MethodName := ⟨RX7, "reads", "()V"⟩
abbrev cX7_fault : ByteArray := prog_9_method_20_code
def yX7_fault : MethodName := ⟨RX7, "fault", "(I)I"⟩
abbrev cX7_isMember : ByteArray := prog_9_method_21_code
def yX7_isMember : MethodName := ⟨RX7, "isMember", "(I)Z"⟩
abbrev cX7_stoneOf : ByteArray := prog_9_method_22_code
def yX7_stoneOf : MethodName := ⟨RX7, "stoneOf", "(I)I"⟩
abbrev cX7_stone : ByteArray := prog_9_method_23_code
def yX7_stone : MethodName := ⟨RX7, "stone", "(I)I"⟩
abbrev cX7_memberOf : ByteArray := prog_9_method_24_code
def yX7_memberOf : MethodName := ⟨RX7, "memberOf", "(II)I"⟩
abbrev cX7_member : ByteArray := prog_9_method_25_code
def yX7_member : MethodName := ⟨RX7, "member", "(II)I"⟩
abbrev cX7_event : ByteArray := prog_9_method_26_code
def yX7_event : MethodName := ⟨RX7, "event", "(III)I"⟩
abbrev cX7_back : ByteArray := prog_9_method_27_code
def yX7_back : MethodName := ⟨RX7, "back", "()I"⟩
abbrev cX7_read : ByteArray := prog_9_method_28_code
def yX7_read : MethodName := ⟨RX7, "read", "(I)I"⟩
abbrev cX7_asTold : ByteArray := prog_9_method_29_code
def yX7_asTold : MethodName := ⟨RX7, "asTold", "()V"⟩
abbrev cX7_lifts : ByteArray := prog_9_method_30_code
def yX7_lifts : MethodName := ⟨RX7, "lifts", "(I)V"⟩
abbrev cX7_peppers : ByteArray := prog_9_method_31_code
def yX7_peppers : MethodName := ⟨RX7, "peppers", "(I)V"⟩
abbrev cX7_wets : ByteArray := prog_9_method_32_code
def yX7_wets : MethodName := ⟨RX7, "wets", "(I)V"⟩
abbrev cX7_befalls : ByteArray := prog_9_method_33_code
def yX7_befalls : MethodName := ⟨RX7, "befalls", "(I)V"⟩
abbrev cX7_isRolled : ByteArray := prog_9_method_34_code
def yX7_isRolled : MethodName := ⟨RX7, "isRolled", "(II)Z"⟩
abbrev cX7_dampNow : ByteArray := prog_9_method_35_code
def yX7_dampNow : MethodName := ⟨RX7, "dampNow", "(I)I"⟩
abbrev cX7_passesOver : ByteArray := prog_9_method_36_code
def yX7_passesOver : MethodName := ⟨RX7, "passesOver", "(II)V"⟩
abbrev cX7_steps : ByteArray := prog_9_method_37_code
def yX7_steps : MethodName := ⟨RX7, "steps", "(II)V"⟩
abbrev cX7_walks : ByteArray := prog_9_method_38_code
def yX7_walks : MethodName := ⟨RX7, "walks", "(II)V"⟩
abbrev cX7_manyAt : ByteArray := prog_9_method_39_code
def yX7_manyAt : MethodName := ⟨RX7, "manyAt", "(II)I"⟩
abbrev cX7_divides : ByteArray := prog_9_method_40_code
def yX7_divides : MethodName := ⟨RX7, "divides", "(I)V"⟩
abbrev cX7_goesBy : ByteArray := prog_9_method_41_code
def yX7_goesBy : MethodName := ⟨RX7, "goesBy", "(I)V"⟩
abbrev cX7_runs : ByteArray := prog_9_method_42_code
def yX7_runs : MethodName := ⟨RX7, "runs", "()V"⟩
abbrev cX7_runsTold : ByteArray := prog_9_method_43_code
def yX7_runsTold : MethodName := ⟨RX7, "runsTold", "()V"⟩
abbrev cX7_dampOf : ByteArray := prog_9_method_44_code
def yX7_dampOf : MethodName := ⟨RX7, "dampOf", "(III)I"⟩
abbrev cX7_damp : ByteArray := prog_9_method_45_code
def yX7_damp : MethodName := ⟨RX7, "damp", "(III)I"⟩
abbrev cX7_atOf : ByteArray := prog_9_method_46_code
def yX7_atOf : MethodName := ⟨RX7, "atOf", "(III)I"⟩
abbrev cX7_at : ByteArray := prog_9_method_47_code
def yX7_at : MethodName := ⟨RX7, "at", "(III)I"⟩
abbrev cX7_isCarried : ByteArray := prog_9_method_48_code
def yX7_isCarried : MethodName := ⟨RX7, "isCarried", "(I)Z"⟩
abbrev cX7_houseOf : ByteArray := prog_9_method_49_code
def yX7_houseOf : MethodName := ⟨RX7, "houseOf", "(II)I"⟩
abbrev cX7_house : ByteArray := prog_9_method_50_code
def yX7_house : MethodName := ⟨RX7, "house", "(II)I"⟩
abbrev cX7_governmentsNow : ByteArray := prog_9_method_51_code
def yX7_governmentsNow : MethodName := ⟨RX7, "governmentsNow", "()I"⟩
abbrev cX7_governmentsOf : ByteArray := prog_9_method_52_code
def yX7_governmentsOf : MethodName := ⟨RX7, "governmentsOf", "()I"⟩
abbrev cX7_governments : ByteArray := prog_9_method_53_code
def yX7_governments : MethodName := ⟨RX7, "governments", "()I"⟩
abbrev cX7_carriedNow : ByteArray := prog_9_method_54_code
def yX7_carriedNow : MethodName := ⟨RX7, "carriedNow", "()I"⟩
abbrev cX7_carriedOf : ByteArray := prog_9_method_55_code
def yX7_carriedOf : MethodName := ⟨RX7, "carriedOf", "()I"⟩
abbrev cX7_carried : ByteArray := prog_9_method_56_code
def yX7_carried : MethodName := ⟨RX7, "carried", "()I"⟩
abbrev cX7_crowdOf : ByteArray := prog_9_method_57_code
def yX7_crowdOf : MethodName := ⟨RX7, "crowdOf", "(I)I"⟩
abbrev cX7_crowd : ByteArray := prog_9_method_58_code
def yX7_crowd : MethodName := ⟨RX7, "crowd", "(I)I"⟩
abbrev cX7_oratorOf : ByteArray := prog_9_method_59_code
def yX7_oratorOf : MethodName := ⟨RX7, "oratorOf", "()I"⟩
abbrev cX7_orator : ByteArray := prog_9_method_60_code
def yX7_orator : MethodName := ⟨RX7, "orator", "()I"⟩
abbrev cX7_stillOf : ByteArray := prog_9_method_61_code
def yX7_stillOf : MethodName := ⟨RX7, "stillOf", "()I"⟩
abbrev cX7_still : ByteArray := prog_9_method_62_code
def yX7_still : MethodName := ⟨RX7, "still", "()I"⟩
abbrev cX7_seatOf : ByteArray := prog_9_method_63_code
def yX7_seatOf : MethodName := ⟨RX7, "seatOf", "(II)I"⟩
abbrev cX7_seat : ByteArray := prog_9_method_64_code
def yX7_seat : MethodName := ⟨RX7, "seat", "(II)I"⟩
abbrev cX7_more : ByteArray := prog_9_method_65_code
def yX7_more : MethodName := ⟨RX7, "more", "(III)V"⟩
abbrev cX7_dustOf : ByteArray := prog_9_method_66_code
def yX7_dustOf : MethodName := ⟨RX7, "dustOf", "(II)I"⟩
abbrev cX7_dust : ByteArray := prog_9_method_67_code
def yX7_dust : MethodName := ⟨RX7, "dust", "(II)I"⟩
abbrev cX7_boyOf : ByteArray := prog_9_method_68_code
def yX7_boyOf : MethodName := ⟨RX7, "boyOf", "(I)I"⟩
abbrev cX7_boy : ByteArray := prog_9_method_69_code
def yX7_boy : MethodName := ⟨RX7, "boy", "(I)I"⟩
abbrev cX7_isCalm : ByteArray := prog_9_method_70_code
def yX7_isCalm : MethodName := ⟨RX7, "isCalm", "(I)Z"⟩
abbrev cX7_calmBy : ByteArray := prog_9_method_71_code
def yX7_calmBy : MethodName := ⟨RX7, "calmBy", "()I"⟩
abbrev cX7_ofRow : ByteArray := prog_9_method_72_code
def yX7_ofRow : MethodName := ⟨RX7, "ofRow", "(II)I"⟩
abbrev cX7_calm : ByteArray := prog_9_method_73_code
def yX7_calm : MethodName := ⟨RX7, "calm", "(I)I"⟩
abbrev cX7_seen : ByteArray := prog_9_method_74_code
def yX7_seen : MethodName := ⟨RX7, "seen", "(III)I"⟩
abbrev cX7_forget : ByteArray := prog_9_method_75_code
def yX7_forget : MethodName := ⟨RX7, "forget", "()I"⟩
abbrev cX7_isSeen : ByteArray := prog_9_method_76_code
def yX7_isSeen : MethodName := ⟨RX7, "isSeen", "()Z"⟩
abbrev cX7_neverNow : ByteArray := prog_9_method_77_code
def yX7_neverNow : MethodName := ⟨RX7, "neverNow", "()I"⟩
abbrev cX7_never : ByteArray := prog_9_method_78_code
def yX7_never : MethodName := ⟨RX7, "never", "()I"⟩
abbrev cX7_sortsBy : ByteArray := prog_9_method_79_code
def yX7_sortsBy : MethodName := ⟨RX7, "sortsBy", "(I)I"⟩
abbrev cX7_sort : ByteArray := prog_9_method_80_code
def yX7_sort : MethodName := ⟨RX7, "sort", "(I)I"⟩
abbrev cX7_wetBy : ByteArray := prog_9_method_81_code
def yX7_wetBy : MethodName := ⟨RX7, "wetBy", "(I)I"⟩
abbrev cX7_wet : ByteArray := prog_9_method_82_code
def yX7_wet : MethodName := ⟨RX7, "wet", "(I)I"⟩
abbrev cX7_askOf : ByteArray := prog_9_method_83_code
def yX7_askOf : MethodName := ⟨RX7, "askOf", "(I)I"⟩
abbrev cX7_ask : ByteArray := prog_9_method_84_code
def yX7_ask : MethodName := ⟨RX7, "ask", "(I)I"⟩
abbrev cX7_chanceOf : ByteArray := prog_9_method_85_code
def yX7_chanceOf : MethodName := ⟨RX7, "chanceOf", "(III)J"⟩
abbrev cX7_chance : ByteArray := prog_9_method_86_code
def yX7_chance : MethodName := ⟨RX7, "chance", "(III)J"⟩
abbrev cX7_agesOf : ByteArray := prog_9_method_87_code
def yX7_agesOf : MethodName := ⟨RX7, "agesOf", "(III)I"⟩
abbrev cX7_ages : ByteArray := prog_9_method_88_code
def yX7_ages : MethodName := ⟨RX7, "ages", "(III)I"⟩
abbrev cX7_meets : ByteArray := prog_9_method_89_code
def yX7_meets : MethodName := ⟨RX7, "meets", "(I)I"⟩
abbrev cX7_isSheet : ByteArray := prog_9_method_90_code
def yX7_isSheet : MethodName := ⟨RX7, "isSheet", "(I)Z"⟩
abbrev cX7_sheet : ByteArray := prog_9_method_91_code
def yX7_sheet : MethodName := ⟨RX7, "sheet", "(III)I"⟩
abbrev cX7_lose : ByteArray := prog_9_method_92_code
def yX7_lose : MethodName := ⟨RX7, "lose", "(I)I"⟩
abbrev cX7_lacks : ByteArray := prog_9_method_93_code
def yX7_lacks : MethodName := ⟨RX7, "lacks", "(III)I"⟩
abbrev cX7_keep : ByteArray := prog_9_method_94_code
def yX7_keep : MethodName := ⟨RX7, "keep", "(III)V"⟩
abbrev cX7_put : ByteArray := prog_9_method_95_code
def yX7_put : MethodName := ⟨RX7, "put", "(IIII)I"⟩
abbrev cX7_get : ByteArray := prog_9_method_96_code
def yX7_get : MethodName := ⟨RX7, "get", "(III)I"⟩
abbrev cX7_copy : ByteArray := prog_9_method_97_code
def yX7_copy : MethodName := ⟨RX7, "copy", "(IIIII)I"⟩
abbrev cX7_write : ByteArray := prog_9_method_98_code
def yX7_write : MethodName := ⟨RX7, "write", "(II)I"⟩
abbrev cX7_sumOf : ByteArray := prog_9_method_99_code
def yX7_sumOf : MethodName := ⟨RX7, "sumOf", "(I)I"⟩
abbrev cX7_count : ByteArray := prog_9_method_100_code
def yX7_count : MethodName := ⟨RX7, "count", "(I)I"⟩
abbrev cX7_placeDigest : ByteArray := prog_9_method_101_code
def yX7_placeDigest : MethodName := ⟨RX7, "placeDigest", "(JI)J"⟩
abbrev cX7_hourDigest : ByteArray := prog_9_method_102_code
def yX7_hourDigest : MethodName := ⟨RX7, "hourDigest", "(JII)J"⟩
abbrev cX7_memberDigest : ByteArray := prog_9_method_103_code
def yX7_memberDigest : MethodName := ⟨RX7, "memberDigest", "(JI)J"⟩
abbrev cX7_digest : ByteArray := prog_9_method_104_code
def yX7_digest : MethodName := ⟨RX7, "digest", "()J"⟩
def RL : String := "WoodliceSenateLaw"
def x_big : List Cond := lw_tbl.filter goodWord
theorem x_mem {w : Cond} (i : Nat) (h : lw_tbl[i]? = some w) (g : goodWord w = true) : w ∈ x_big := List.mem_filter.mpr ⟨List.mem_of_getElem? h, g⟩
theorem x_mm {w : Cond} (h : w ∈ lw_tbl) (g : goodWord w = true) : w ∈ x_big := List.mem_filter.mpr ⟨h, g⟩
theorem x_t1 {w : Cond} (h : w ∈ tables_1_1) : w ∈ lw_tbl := List.mem_append_right _ (List.mem_append_left _ h)
theorem x_t2 {w : Cond} (h : w ∈ tables_1_2) : w ∈ lw_tbl := List.mem_append_right _ (List.mem_append_right _ (List.mem_append_left _ h))
theorem x_t3 {w : Cond} (h : w ∈ tables_1_3) : w ∈ lw_tbl := List.mem_append_right _ (List.mem_append_right _ (List.mem_append_right _ (List.mem_append_left _ h)))
theorem x_t4 {w : Cond} (h : w ∈ tables_1_4) : w ∈ lw_tbl := List.mem_append_right _ (List.mem_append_right _ (List.mem_append_right _ (List.mem_append_right _ (List.mem_append_left _ h))))
theorem x_t5 {w : Cond} (h : w ∈ tables_1_5) : w ∈ lw_tbl := List.mem_append_right _ (List.mem_append_right _ (List.mem_append_right _ (List.mem_append_right _ (List.mem_append_right _ (List.mem_append_left _ h)))))
theorem x_t6 {w : Cond} (h : w ∈ tables_1_6) : w ∈ lw_tbl := List.mem_append_right _ (List.mem_append_right _ (List.mem_append_right _ (List.mem_append_right _ (List.mem_append_right _ (List.mem_append_right _ h)))))
theorem x_mem2 {w : Cond} (h : w ∈ x_big) : w ∈ lw_tbl := (List.mem_filter.mp h).1
theorem x_good : GoodIn lw_tbl x_big := fun w h => ⟨x_mem2 h, good_of_word (List.mem_filter.mp h).2⟩
set_option maxRecDepth 100000 in
theorem inX0 : ∀ w ∈ u_ws RX0 TX0 2, w ∈ x_big := by
  show ∀ w ∈ ([u_lay RX0 TX0 0, u_lay RX0 TX0 1] : List Cond), w ∈ x_big
  exact List.forall_mem_cons.mpr ⟨x_mm (x_t1 (List.mem_of_getElem? (i := 175) rfl)) rfl, List.forall_mem_cons.mpr ⟨x_mm (x_t1 (List.mem_of_getElem? (i := 177) rfl)) rfl, fun _ h => absurd h List.not_mem_nil⟩⟩
set_option maxRecDepth 100000 in
theorem inX1 : ∀ w ∈ u_ws RX1 TX1 9, w ∈ x_big := by
  show ∀ w ∈ ([u_lay RX1 TX1 0, u_lay RX1 TX1 1, u_lay RX1 TX1 2, u_lay RX1 TX1 3, u_lay RX1 TX1 4, u_lay RX1 TX1 5, u_lay RX1 TX1 6, u_lay RX1 TX1 7, u_lay RX1 TX1 8] : List Cond), w ∈ x_big
  exact List.forall_mem_cons.mpr ⟨x_mm (x_t1 (List.mem_of_getElem? (i := 62) rfl)) rfl, List.forall_mem_cons.mpr ⟨x_mm (x_t1 (List.mem_of_getElem? (i := 64) rfl)) rfl, List.forall_mem_cons.mpr ⟨x_mm (x_t1 (List.mem_of_getElem? (i := 66) rfl)) rfl, List.forall_mem_cons.mpr ⟨x_mm (x_t1 (List.mem_of_getElem? (i := 68) rfl)) rfl, List.forall_mem_cons.mpr ⟨x_mm (x_t1 (List.mem_of_getElem? (i := 70) rfl)) rfl, List.forall_mem_cons.mpr ⟨x_mm (x_t1 (List.mem_of_getElem? (i := 72) rfl)) rfl, List.forall_mem_cons.mpr ⟨x_mm (x_t1 (List.mem_of_getElem? (i := 74) rfl)) rfl, List.forall_mem_cons.mpr ⟨x_mm (x_t1 (List.mem_of_getElem? (i := 76) rfl)) rfl, List.forall_mem_cons.mpr ⟨x_mm (x_t1 (List.mem_of_getElem? (i := 78) rfl)) rfl, fun _ h => absurd h List.not_mem_nil⟩⟩⟩⟩⟩⟩⟩⟩⟩
set_option maxRecDepth 100000 in
theorem inX2 : ∀ w ∈ u_ws RX2 TX2 18, w ∈ x_big := by
  show ∀ w ∈ ([u_lay RX2 TX2 0, u_lay RX2 TX2 1, u_lay RX2 TX2 2, u_lay RX2 TX2 3, u_lay RX2 TX2 4, u_lay RX2 TX2 5, u_lay RX2 TX2 6, u_lay RX2 TX2 7, u_lay RX2 TX2 8, u_lay RX2 TX2 9, u_lay RX2 TX2 10, u_lay RX2 TX2 11, u_lay RX2 TX2 12, u_lay RX2 TX2 13, u_lay RX2 TX2 14, u_lay RX2 TX2 15, u_lay RX2 TX2 16, u_lay RX2 TX2 17] : List Cond), w ∈ x_big
  exact List.forall_mem_cons.mpr ⟨x_mm (x_t1 (List.mem_of_getElem? (i := 107) rfl)) rfl, List.forall_mem_cons.mpr ⟨x_mm (x_t1 (List.mem_of_getElem? (i := 109) rfl)) rfl, List.forall_mem_cons.mpr ⟨x_mm (x_t1 (List.mem_of_getElem? (i := 111) rfl)) rfl, List.forall_mem_cons.mpr ⟨x_mm (x_t1 (List.mem_of_getElem? (i := 113) rfl)) rfl, List.forall_mem_cons.mpr ⟨x_mm (x_t1 (List.mem_of_getElem? (i := 115) rfl)) rfl, List.forall_mem_cons.mpr ⟨x_mm (x_t1 (List.mem_of_getElem? (i := 117) rfl)) rfl, List.forall_mem_cons.mpr ⟨x_mm (x_t1 (List.mem_of_getElem? (i := 119) rfl)) rfl, List.forall_mem_cons.mpr ⟨x_mm (x_t1 (List.mem_of_getElem? (i := 121) rfl)) rfl, List.forall_mem_cons.mpr ⟨x_mm (x_t1 (List.mem_of_getElem? (i := 123) rfl)) rfl, List.forall_mem_cons.mpr ⟨x_mm (x_t1 (List.mem_of_getElem? (i := 125) rfl)) rfl, List.forall_mem_cons.mpr ⟨x_mm (x_t1 (List.mem_of_getElem? (i := 127) rfl)) rfl, List.forall_mem_cons.mpr ⟨x_mm (x_t1 (List.mem_of_getElem? (i := 129) rfl)) rfl, List.forall_mem_cons.mpr ⟨x_mm (x_t1 (List.mem_of_getElem? (i := 131) rfl)) rfl, List.forall_mem_cons.mpr ⟨x_mm (x_t1 (List.mem_of_getElem? (i := 133) rfl)) rfl, List.forall_mem_cons.mpr ⟨x_mm (x_t1 (List.mem_of_getElem? (i := 135) rfl)) rfl, List.forall_mem_cons.mpr ⟨x_mm (x_t1 (List.mem_of_getElem? (i := 137) rfl)) rfl, List.forall_mem_cons.mpr ⟨x_mm (x_t1 (List.mem_of_getElem? (i := 139) rfl)) rfl, List.forall_mem_cons.mpr ⟨x_mm (x_t1 (List.mem_of_getElem? (i := 141) rfl)) rfl, fun _ h => absurd h List.not_mem_nil⟩⟩⟩⟩⟩⟩⟩⟩⟩⟩⟩⟩⟩⟩⟩⟩⟩⟩
set_option maxRecDepth 100000 in
theorem inX3 : ∀ w ∈ u_ws RX3 TX3 3, w ∈ x_big := by
  show ∀ w ∈ ([u_lay RX3 TX3 0, u_lay RX3 TX3 1, u_lay RX3 TX3 2] : List Cond), w ∈ x_big
  exact List.forall_mem_cons.mpr ⟨x_mm (x_t1 (List.mem_of_getElem? (i := 193) rfl)) rfl, List.forall_mem_cons.mpr ⟨x_mm (x_t1 (List.mem_of_getElem? (i := 195) rfl)) rfl, List.forall_mem_cons.mpr ⟨x_mm (x_t1 (List.mem_of_getElem? (i := 197) rfl)) rfl, fun _ h => absurd h List.not_mem_nil⟩⟩⟩
set_option maxRecDepth 100000 in
theorem inX4 : ∀ w ∈ u_ws RX4 TX4 4, w ∈ x_big := by
  show ∀ w ∈ ([u_lay RX4 TX4 0, u_lay RX4 TX4 1, u_lay RX4 TX4 2, u_lay RX4 TX4 3] : List Cond), w ∈ x_big
  exact List.forall_mem_cons.mpr ⟨x_mm (x_t1 (List.mem_of_getElem? (i := 156) rfl)) rfl, List.forall_mem_cons.mpr ⟨x_mm (x_t1 (List.mem_of_getElem? (i := 158) rfl)) rfl, List.forall_mem_cons.mpr ⟨x_mm (x_t1 (List.mem_of_getElem? (i := 160) rfl)) rfl, List.forall_mem_cons.mpr ⟨x_mm (x_t1 (List.mem_of_getElem? (i := 162) rfl)) rfl, fun _ h => absurd h List.not_mem_nil⟩⟩⟩⟩
set_option maxRecDepth 100000 in
theorem inX5 : ∀ w ∈ u_ws RX5 TX5 2, w ∈ x_big := by
  show ∀ w ∈ ([u_lay RX5 TX5 0, u_lay RX5 TX5 1] : List Cond), w ∈ x_big
  exact List.forall_mem_cons.mpr ⟨x_mm (x_t1 (List.mem_of_getElem? (i := 30) rfl)) rfl, List.forall_mem_cons.mpr ⟨x_mm (x_t1 (List.mem_of_getElem? (i := 32) rfl)) rfl, fun _ h => absurd h List.not_mem_nil⟩⟩
set_option maxRecDepth 100000 in
theorem inX6 : ∀ w ∈ u_ws RX6 TX6 16, w ∈ x_big := by
  show ∀ w ∈ ([u_lay RX6 TX6 0, u_lay RX6 TX6 1, u_lay RX6 TX6 2, u_lay RX6 TX6 3, u_lay RX6 TX6 4, u_lay RX6 TX6 5, u_lay RX6 TX6 6, u_lay RX6 TX6 7, u_lay RX6 TX6 8, u_lay RX6 TX6 9, u_lay RX6 TX6 10, u_lay RX6 TX6 11, u_lay RX6 TX6 12, u_lay RX6 TX6 13, u_lay RX6 TX6 14, u_lay RX6 TX6 15] : List Cond), w ∈ x_big
  exact List.forall_mem_cons.mpr ⟨x_mm (x_t1 (List.mem_of_getElem? (i := 239) rfl)) rfl, List.forall_mem_cons.mpr ⟨x_mm (x_t2 (List.mem_of_getElem? (i := 1) rfl)) rfl, List.forall_mem_cons.mpr ⟨x_mm (x_t2 (List.mem_of_getElem? (i := 3) rfl)) rfl, List.forall_mem_cons.mpr ⟨x_mm (x_t2 (List.mem_of_getElem? (i := 5) rfl)) rfl, List.forall_mem_cons.mpr ⟨x_mm (x_t2 (List.mem_of_getElem? (i := 7) rfl)) rfl, List.forall_mem_cons.mpr ⟨x_mm (x_t2 (List.mem_of_getElem? (i := 9) rfl)) rfl, List.forall_mem_cons.mpr ⟨x_mm (x_t2 (List.mem_of_getElem? (i := 11) rfl)) rfl, List.forall_mem_cons.mpr ⟨x_mm (x_t2 (List.mem_of_getElem? (i := 13) rfl)) rfl, List.forall_mem_cons.mpr ⟨x_mm (x_t2 (List.mem_of_getElem? (i := 15) rfl)) rfl, List.forall_mem_cons.mpr ⟨x_mm (x_t2 (List.mem_of_getElem? (i := 17) rfl)) rfl, List.forall_mem_cons.mpr ⟨x_mm (x_t2 (List.mem_of_getElem? (i := 19) rfl)) rfl, List.forall_mem_cons.mpr ⟨x_mm (x_t2 (List.mem_of_getElem? (i := 21) rfl)) rfl, List.forall_mem_cons.mpr ⟨x_mm (x_t2 (List.mem_of_getElem? (i := 23) rfl)) rfl, List.forall_mem_cons.mpr ⟨x_mm (x_t2 (List.mem_of_getElem? (i := 25) rfl)) rfl, List.forall_mem_cons.mpr ⟨x_mm (x_t2 (List.mem_of_getElem? (i := 27) rfl)) rfl, List.forall_mem_cons.mpr ⟨x_mm (x_t2 (List.mem_of_getElem? (i := 29) rfl)) rfl, fun _ h => absurd h List.not_mem_nil⟩⟩⟩⟩⟩⟩⟩⟩⟩⟩⟩⟩⟩⟩⟩⟩
set_option maxRecDepth 100000 in
theorem inX7 : ∀ w ∈ u_ws RX7 TX7 42, w ∈ x_big := by
  show ∀ w ∈ ([u_lay RX7 TX7 0, u_lay RX7 TX7 1, u_lay RX7 TX7 2, u_lay RX7 TX7 3, u_lay RX7 TX7 4, u_lay RX7 TX7 5, u_lay RX7 TX7 6, u_lay RX7 TX7 7, u_lay RX7 TX7 8, u_lay RX7 TX7 9, u_lay RX7 TX7 10, u_lay RX7 TX7 11, u_lay RX7 TX7 12, u_lay RX7 TX7 13, u_lay RX7 TX7 14, u_lay RX7 TX7 15, u_lay RX7 TX7 16, u_lay RX7 TX7 17, u_lay RX7 TX7 18, u_lay RX7 TX7 19, u_lay RX7 TX7 20, u_lay RX7 TX7 21, u_lay RX7 TX7 22, u_lay RX7 TX7 23, u_lay RX7 TX7 24, u_lay RX7 TX7 25, u_lay RX7 TX7 26, u_lay RX7 TX7 27, u_lay RX7 TX7 28, u_lay RX7 TX7 29, u_lay RX7 TX7 30, u_lay RX7 TX7 31, u_lay RX7 TX7 32, u_lay RX7 TX7 33, u_lay RX7 TX7 34, u_lay RX7 TX7 35, u_lay RX7 TX7 36, u_lay RX7 TX7 37, u_lay RX7 TX7 38, u_lay RX7 TX7 39, u_lay RX7 TX7 40, u_lay RX7 TX7 41] : List Cond), w ∈ x_big
  exact List.forall_mem_cons.mpr ⟨x_mm (x_t4 (List.mem_of_getElem? (i := 122) rfl)) rfl, List.forall_mem_cons.mpr ⟨x_mm (x_t4 (List.mem_of_getElem? (i := 124) rfl)) rfl, List.forall_mem_cons.mpr ⟨x_mm (x_t4 (List.mem_of_getElem? (i := 126) rfl)) rfl, List.forall_mem_cons.mpr ⟨x_mm (x_t4 (List.mem_of_getElem? (i := 128) rfl)) rfl, List.forall_mem_cons.mpr ⟨x_mm (x_t4 (List.mem_of_getElem? (i := 130) rfl)) rfl, List.forall_mem_cons.mpr ⟨x_mm (x_t4 (List.mem_of_getElem? (i := 132) rfl)) rfl, List.forall_mem_cons.mpr ⟨x_mm (x_t4 (List.mem_of_getElem? (i := 134) rfl)) rfl, List.forall_mem_cons.mpr ⟨x_mm (x_t4 (List.mem_of_getElem? (i := 136) rfl)) rfl, List.forall_mem_cons.mpr ⟨x_mm (x_t4 (List.mem_of_getElem? (i := 138) rfl)) rfl, List.forall_mem_cons.mpr ⟨x_mm (x_t4 (List.mem_of_getElem? (i := 140) rfl)) rfl, List.forall_mem_cons.mpr ⟨x_mm (x_t4 (List.mem_of_getElem? (i := 142) rfl)) rfl, List.forall_mem_cons.mpr ⟨x_mm (x_t4 (List.mem_of_getElem? (i := 144) rfl)) rfl, List.forall_mem_cons.mpr ⟨x_mm (x_t4 (List.mem_of_getElem? (i := 146) rfl)) rfl, List.forall_mem_cons.mpr ⟨x_mm (x_t4 (List.mem_of_getElem? (i := 148) rfl)) rfl, List.forall_mem_cons.mpr ⟨x_mm (x_t4 (List.mem_of_getElem? (i := 150) rfl)) rfl, List.forall_mem_cons.mpr ⟨x_mm (x_t4 (List.mem_of_getElem? (i := 152) rfl)) rfl, List.forall_mem_cons.mpr ⟨x_mm (x_t4 (List.mem_of_getElem? (i := 154) rfl)) rfl, List.forall_mem_cons.mpr ⟨x_mm (x_t4 (List.mem_of_getElem? (i := 156) rfl)) rfl, List.forall_mem_cons.mpr ⟨x_mm (x_t4 (List.mem_of_getElem? (i := 158) rfl)) rfl, List.forall_mem_cons.mpr ⟨x_mm (x_t4 (List.mem_of_getElem? (i := 160) rfl)) rfl, List.forall_mem_cons.mpr ⟨x_mm (x_t4 (List.mem_of_getElem? (i := 162) rfl)) rfl, List.forall_mem_cons.mpr ⟨x_mm (x_t4 (List.mem_of_getElem? (i := 164) rfl)) rfl, List.forall_mem_cons.mpr ⟨x_mm (x_t4 (List.mem_of_getElem? (i := 166) rfl)) rfl, List.forall_mem_cons.mpr ⟨x_mm (x_t4 (List.mem_of_getElem? (i := 168) rfl)) rfl, List.forall_mem_cons.mpr ⟨x_mm (x_t4 (List.mem_of_getElem? (i := 170) rfl)) rfl, List.forall_mem_cons.mpr ⟨x_mm (x_t4 (List.mem_of_getElem? (i := 172) rfl)) rfl, List.forall_mem_cons.mpr ⟨x_mm (x_t4 (List.mem_of_getElem? (i := 174) rfl)) rfl, List.forall_mem_cons.mpr ⟨x_mm (x_t4 (List.mem_of_getElem? (i := 176) rfl)) rfl, List.forall_mem_cons.mpr ⟨x_mm (x_t4 (List.mem_of_getElem? (i := 178) rfl)) rfl, List.forall_mem_cons.mpr ⟨x_mm (x_t4 (List.mem_of_getElem? (i := 180) rfl)) rfl, List.forall_mem_cons.mpr ⟨x_mm (x_t4 (List.mem_of_getElem? (i := 182) rfl)) rfl, List.forall_mem_cons.mpr ⟨x_mm (x_t4 (List.mem_of_getElem? (i := 184) rfl)) rfl, List.forall_mem_cons.mpr ⟨x_mm (x_t4 (List.mem_of_getElem? (i := 186) rfl)) rfl, List.forall_mem_cons.mpr ⟨x_mm (x_t4 (List.mem_of_getElem? (i := 188) rfl)) rfl, List.forall_mem_cons.mpr ⟨x_mm (x_t4 (List.mem_of_getElem? (i := 190) rfl)) rfl, List.forall_mem_cons.mpr ⟨x_mm (x_t4 (List.mem_of_getElem? (i := 192) rfl)) rfl, List.forall_mem_cons.mpr ⟨x_mm (x_t4 (List.mem_of_getElem? (i := 194) rfl)) rfl, List.forall_mem_cons.mpr ⟨x_mm (x_t4 (List.mem_of_getElem? (i := 196) rfl)) rfl, List.forall_mem_cons.mpr ⟨x_mm (x_t4 (List.mem_of_getElem? (i := 198) rfl)) rfl, List.forall_mem_cons.mpr ⟨x_mm (x_t4 (List.mem_of_getElem? (i := 200) rfl)) rfl, List.forall_mem_cons.mpr ⟨x_mm (x_t4 (List.mem_of_getElem? (i := 202) rfl)) rfl, List.forall_mem_cons.mpr ⟨x_mm (x_t4 (List.mem_of_getElem? (i := 204) rfl)) rfl, fun _ h => absurd h List.not_mem_nil⟩⟩⟩⟩⟩⟩⟩⟩⟩⟩⟩⟩⟩⟩⟩⟩⟩⟩⟩⟩⟩⟩⟩⟩⟩⟩⟩⟩⟩⟩⟩⟩⟩⟩⟩⟩⟩⟩⟩⟩⟩⟩
set_option maxRecDepth 100000 in
theorem mn_L : (Cond.initialized RL) ∈ x_big := x_mm (x_t1 (List.mem_of_getElem? (i := 0) rfl)) rfl
set_option maxRecDepth 100000 in
theorem mn_6 : (Cond.initialized RX6) ∈ x_big := x_mm (x_t1 (List.mem_of_getElem? (i := 1) rfl)) rfl
set_option maxRecDepth 100000 in
theorem mn_5 : (Cond.initialized RX5) ∈ x_big := x_mm (x_t1 (List.mem_of_getElem? (i := 2) rfl)) rfl
set_option maxRecDepth 100000 in
theorem mn_Math : (Cond.initialized "java/lang/Math") ∈ x_big := x_mm (x_t1 (List.mem_of_getElem? (i := 3) rfl)) rfl
set_option maxRecDepth 100000 in
theorem mn_1 : (Cond.initialized RX1) ∈ x_big := x_mm (x_t1 (List.mem_of_getElem? (i := 4) rfl)) rfl
set_option maxRecDepth 100000 in
theorem mn_2 : (Cond.initialized RX2) ∈ x_big := x_mm (x_t1 (List.mem_of_getElem? (i := 5) rfl)) rfl
set_option maxRecDepth 100000 in
theorem mn_4 : (Cond.initialized RX4) ∈ x_big := x_mm (x_t1 (List.mem_of_getElem? (i := 6) rfl)) rfl
set_option maxRecDepth 100000 in
theorem mn_0 : (Cond.initialized RX0) ∈ x_big := x_mm (x_t1 (List.mem_of_getElem? (i := 7) rfl)) rfl
set_option maxRecDepth 100000 in
theorem mn_3 : (Cond.initialized RX3) ∈ x_big := x_mm (x_t1 (List.mem_of_getElem? (i := 8) rfl)) rfl
set_option maxRecDepth 100000 in
theorem mn_7 : (Cond.initialized RX7) ∈ x_big := x_mm (x_t1 (List.mem_of_getElem? (i := 9) rfl)) rfl
set_option maxRecDepth 100000 in
theorem mn_System : (Cond.initialized "java/lang/System") ∈ x_big := x_mm (x_t1 (List.mem_of_getElem? (i := 10) rfl)) rfl
set_option maxRecDepth 100000 in
theorem mcl_L_7 : (Cond.classLink RL 7 RX6) ∈ x_big := x_mm (x_t1 (List.mem_of_getElem? (i := 11) rfl)) rfl
set_option maxRecDepth 100000 in
theorem mna_6 : (Cond.instantiable RX6 16) ∈ x_big := x_mm (x_t1 (List.mem_of_getElem? (i := 12) rfl)) rfl
set_option maxRecDepth 100000 in
theorem ml_L_9 : (Cond.methodLink RL 9 yX6_init) ∈ x_big := x_mm (x_t1 (List.mem_of_getElem? (i := 13) rfl)) rfl
set_option maxRecDepth 100000 in
theorem mi_6_init : (Cond.instanceMethod yX6_init) ∈ x_big := x_mm (x_t1 (List.mem_of_getElem? (i := 14) rfl)) rfl
set_option maxRecDepth 100000 in
theorem mc_6_init : (Cond.code yX6_init cX6_init 2 none) ∈ x_big := x_mm (x_t1 (List.mem_of_getElem? (i := 15) rfl)) rfl
set_option maxRecDepth 100000 in
theorem ml_6_1 : (Cond.methodLink RX6 1 objectInit) ∈ x_big := x_mm (x_t1 (List.mem_of_getElem? (i := 16) rfl)) rfl
set_option maxRecDepth 100000 in
theorem mi_object : (Cond.instanceMethod objectInit) ∈ x_big := x_mm (x_t1 (List.mem_of_getElem? (i := 17) rfl)) rfl
set_option maxRecDepth 100000 in
theorem mc_init : (Cond.code objectInit ⟨#[0xb1]⟩ 1 none) ∈ x_big := x_mm (x_t1 (List.mem_of_getElem? (i := 18) rfl)) rfl
set_option maxRecDepth 100000 in
theorem mcl_6_7 : (Cond.classLink RX6 7 RX5) ∈ x_big := x_mm (x_t1 (List.mem_of_getElem? (i := 19) rfl)) rfl
set_option maxRecDepth 100000 in
theorem mna_5 : (Cond.instantiable RX5 2) ∈ x_big := x_mm (x_t1 (List.mem_of_getElem? (i := 20) rfl)) rfl
set_option maxRecDepth 100000 in
theorem ml_6_11 : (Cond.methodLink RX6 11 yX5_init) ∈ x_big := x_mm (x_t1 (List.mem_of_getElem? (i := 21) rfl)) rfl
set_option maxRecDepth 100000 in
theorem mi_5_init : (Cond.instanceMethod yX5_init) ∈ x_big := x_mm (x_t1 (List.mem_of_getElem? (i := 22) rfl)) rfl
set_option maxRecDepth 100000 in
theorem mc_5_init : (Cond.code yX5_init cX5_init 2 none) ∈ x_big := x_mm (x_t1 (List.mem_of_getElem? (i := 23) rfl)) rfl
set_option maxRecDepth 100000 in
theorem ml_5_3 : (Cond.methodLink RX5 3 objectInit) ∈ x_big := x_mm (x_t1 (List.mem_of_getElem? (i := 24) rfl)) rfl
set_option maxRecDepth 100000 in
theorem ml_5_9 : (Cond.methodLink RX5 9 Lib.Math.max.name) ∈ x_big := x_mm (x_t1 (List.mem_of_getElem? (i := 25) rfl)) rfl
set_option maxRecDepth 100000 in
theorem ms_max : (Cond.static Lib.Math.max.name) ∈ x_big := x_mm (x_t1 (List.mem_of_getElem? (i := 26) rfl)) rfl
set_option maxRecDepth 100000 in
theorem mc_max : (Cond.code Lib.Math.max.name Lib.Math.max.code 2 (some .int)) ∈ x_big := x_mm (x_t1 (List.mem_of_getElem? (i := 27) rfl)) rfl
set_option maxRecDepth 100000 in
theorem mf_5_15 : (Cond.fieldLink RX5 15 "WoodliceSenate$Text" "bytes" "[I") ∈ x_big := x_mm (x_t1 (List.mem_of_getElem? (i := 28) rfl)) rfl
set_option maxRecDepth 100000 in
theorem mf_5_21 : (Cond.fieldLink RX5 21 "WoodliceSenate$Text" "size" "I") ∈ x_big := x_mm (x_t1 (List.mem_of_getElem? (i := 29) rfl)) rfl
set_option maxRecDepth 100000 in
theorem mcl_6_21 : (Cond.classLink RX6 21 RX1) ∈ x_big := x_mm (x_t1 (List.mem_of_getElem? (i := 36) rfl)) rfl
set_option maxRecDepth 100000 in
theorem mna_1 : (Cond.instantiable RX1 9) ∈ x_big := x_mm (x_t1 (List.mem_of_getElem? (i := 37) rfl)) rfl
set_option maxRecDepth 100000 in
theorem mi_1_init : (Cond.instanceMethod yX1_init) ∈ x_big := x_mm (x_t1 (List.mem_of_getElem? (i := 39) rfl)) rfl
set_option maxRecDepth 100000 in
theorem mc_1_init : (Cond.code yX1_init cX1_init 1 none) ∈ x_big := x_mm (x_t1 (List.mem_of_getElem? (i := 40) rfl)) rfl
set_option maxRecDepth 100000 in
theorem ml_1_3 : (Cond.methodLink RX1 3 objectInit) ∈ x_big := x_mm (x_t1 (List.mem_of_getElem? (i := 41) rfl)) rfl
set_option maxRecDepth 100000 in
theorem mf_1_9 : (Cond.fieldLink RX1 9 "WoodliceSenate$Bill" "damp" "[I") ∈ x_big := x_mm (x_t1 (List.mem_of_getElem? (i := 42) rfl)) rfl
set_option maxRecDepth 100000 in
theorem mf_1_15 : (Cond.fieldLink RX1 15 "WoodliceSenate$Bill" "sorts" "[I") ∈ x_big := x_mm (x_t1 (List.mem_of_getElem? (i := 44) rfl)) rfl
set_option maxRecDepth 100000 in
theorem mf_1_18 : (Cond.fieldLink RX1 18 "WoodliceSenate$Bill" "places" "[I") ∈ x_big := x_mm (x_t1 (List.mem_of_getElem? (i := 46) rfl)) rfl
set_option maxRecDepth 100000 in
theorem mf_1_21 : (Cond.fieldLink RX1 21 "WoodliceSenate$Bill" "uprights" "[I") ∈ x_big := x_mm (x_t1 (List.mem_of_getElem? (i := 48) rfl)) rfl
set_option maxRecDepth 100000 in
theorem mf_1_33 : (Cond.fieldLink RX1 33 "WoodliceSenate$Bill" "members" "I") ∈ x_big := x_mm (x_t1 (List.mem_of_getElem? (i := 50) rfl)) rfl
set_option maxRecDepth 100000 in
theorem mf_1_24 : (Cond.fieldLink RX1 24 "WoodliceSenate$Bill" "kinds" "[I") ∈ x_big := x_mm (x_t1 (List.mem_of_getElem? (i := 53) rfl)) rfl
set_option maxRecDepth 100000 in
theorem mf_1_27 : (Cond.fieldLink RX1 27 "WoodliceSenate$Bill" "hours" "[I") ∈ x_big := x_mm (x_t1 (List.mem_of_getElem? (i := 55) rfl)) rfl
set_option maxRecDepth 100000 in
theorem mf_1_30 : (Cond.fieldLink RX1 30 "WoodliceSenate$Bill" "spots" "[I") ∈ x_big := x_mm (x_t1 (List.mem_of_getElem? (i := 57) rfl)) rfl
set_option maxRecDepth 100000 in
theorem mf_1_41 : (Cond.fieldLink RX1 41 "WoodliceSenate$Bill" "events" "I") ∈ x_big := x_mm (x_t1 (List.mem_of_getElem? (i := 59) rfl)) rfl
set_option maxRecDepth 100000 in
theorem mcl_6_31 : (Cond.classLink RX6 31 RX2) ∈ x_big := x_mm (x_t1 (List.mem_of_getElem? (i := 81) rfl)) rfl
set_option maxRecDepth 100000 in
theorem mna_2 : (Cond.instantiable RX2 18) ∈ x_big := x_mm (x_t1 (List.mem_of_getElem? (i := 82) rfl)) rfl
set_option maxRecDepth 100000 in
theorem mi_2_init : (Cond.instanceMethod yX2_init) ∈ x_big := x_mm (x_t1 (List.mem_of_getElem? (i := 84) rfl)) rfl
set_option maxRecDepth 100000 in
theorem mc_2_init : (Cond.code yX2_init cX2_init 1 none) ∈ x_big := x_mm (x_t1 (List.mem_of_getElem? (i := 85) rfl)) rfl
set_option maxRecDepth 100000 in
theorem ml_2_3 : (Cond.methodLink RX2 3 objectInit) ∈ x_big := x_mm (x_t1 (List.mem_of_getElem? (i := 86) rfl)) rfl
set_option maxRecDepth 100000 in
theorem mf_2_9 : (Cond.fieldLink RX2 9 "WoodliceSenate$Chamber" "damp" "[I") ∈ x_big := x_mm (x_t1 (List.mem_of_getElem? (i := 89) rfl)) rfl
set_option maxRecDepth 100000 in
theorem mf_2_15 : (Cond.fieldLink RX2 15 "WoodliceSenate$Chamber" "heads" "[I") ∈ x_big := x_mm (x_t1 (List.mem_of_getElem? (i := 90) rfl)) rfl
set_option maxRecDepth 100000 in
theorem mf_2_18 : (Cond.fieldLink RX2 18 "WoodliceSenate$Chamber" "sorts" "[I") ∈ x_big := x_mm (x_t1 (List.mem_of_getElem? (i := 91) rfl)) rfl
set_option maxRecDepth 100000 in
theorem mf_2_21 : (Cond.fieldLink RX2 21 "WoodliceSenate$Chamber" "places" "[I") ∈ x_big := x_mm (x_t1 (List.mem_of_getElem? (i := 92) rfl)) rfl
set_option maxRecDepth 100000 in
theorem mf_2_24 : (Cond.fieldLink RX2 24 "WoodliceSenate$Chamber" "uprights" "[I") ∈ x_big := x_mm (x_t1 (List.mem_of_getElem? (i := 93) rfl)) rfl
set_option maxRecDepth 100000 in
theorem mf_2_27 : (Cond.fieldLink RX2 27 "WoodliceSenate$Chamber" "rolledUntil" "[I") ∈ x_big := x_mm (x_t1 (List.mem_of_getElem? (i := 94) rfl)) rfl
set_option maxRecDepth 100000 in
theorem mf_2_30 : (Cond.fieldLink RX2 30 "WoodliceSenate$Chamber" "rolled" "[Z") ∈ x_big := x_mm (x_t1 (List.mem_of_getElem? (i := 95) rfl)) rfl
set_option maxRecDepth 100000 in
theorem mf_2_34 : (Cond.fieldLink RX2 34 "WoodliceSenate$Chamber" "speeches" "[I") ∈ x_big := x_mm (x_t1 (List.mem_of_getElem? (i := 96) rfl)) rfl
set_option maxRecDepth 100000 in
theorem mf_2_103 : (Cond.fieldLink RX2 103 "WoodliceSenate$Chamber" "members" "I") ∈ x_big := x_mm (x_t1 (List.mem_of_getElem? (i := 97) rfl)) rfl
set_option maxRecDepth 100000 in
theorem mf_2_104 : (Cond.fieldLink RX2 104 "WoodliceSenate$Chamber" "movers" "I") ∈ x_big := x_mm (x_t1 (List.mem_of_getElem? (i := 98) rfl)) rfl
set_option maxRecDepth 100000 in
theorem mf_2_39 : (Cond.fieldLink RX2 39 "WoodliceSenate$Chamber" "dampBehind" "[[I") ∈ x_big := x_mm (x_t1 (List.mem_of_getElem? (i := 99) rfl)) rfl
set_option maxRecDepth 100000 in
theorem mf_2_42 : (Cond.fieldLink RX2 42 "WoodliceSenate$Chamber" "headsBehind" "[[I") ∈ x_big := x_mm (x_t1 (List.mem_of_getElem? (i := 100) rfl)) rfl
set_option maxRecDepth 100000 in
theorem mf_2_45 : (Cond.fieldLink RX2 45 "WoodliceSenate$Chamber" "placeBehind" "[[I") ∈ x_big := x_mm (x_t1 (List.mem_of_getElem? (i := 101) rfl)) rfl
set_option maxRecDepth 100000 in
theorem mf_2_48 : (Cond.fieldLink RX2 48 "WoodliceSenate$Chamber" "uprightBehind" "[[I") ∈ x_big := x_mm (x_t1 (List.mem_of_getElem? (i := 102) rfl)) rfl
set_option maxRecDepth 100000 in
theorem mf_2_51 : (Cond.fieldLink RX2 51 "WoodliceSenate$Chamber" "rolledBehind" "[[I") ∈ x_big := x_mm (x_t1 (List.mem_of_getElem? (i := 103) rfl)) rfl
set_option maxRecDepth 100000 in
theorem mf_2_54 : (Cond.fieldLink RX2 54 "WoodliceSenate$Chamber" "speechesBehind" "[[I") ∈ x_big := x_mm (x_t1 (List.mem_of_getElem? (i := 104) rfl)) rfl
set_option maxRecDepth 100000 in
theorem mf_2_57 : (Cond.fieldLink RX2 57 "WoodliceSenate$Chamber" "ayes" "[I") ∈ x_big := x_mm (x_t1 (List.mem_of_getElem? (i := 105) rfl)) rfl
set_option maxRecDepth 100000 in
theorem mf_2_60 : (Cond.fieldLink RX2 60 "WoodliceSenate$Chamber" "noes" "[I") ∈ x_big := x_mm (x_t1 (List.mem_of_getElem? (i := 106) rfl)) rfl
set_option maxRecDepth 100000 in
theorem mcl_6_41 : (Cond.classLink RX6 41 RX4) ∈ x_big := x_mm (x_t1 (List.mem_of_getElem? (i := 145) rfl)) rfl
set_option maxRecDepth 100000 in
theorem mna_4 : (Cond.instantiable RX4 4) ∈ x_big := x_mm (x_t1 (List.mem_of_getElem? (i := 146) rfl)) rfl
set_option maxRecDepth 100000 in
theorem mi_4_init : (Cond.instanceMethod yX4_init) ∈ x_big := x_mm (x_t1 (List.mem_of_getElem? (i := 148) rfl)) rfl
set_option maxRecDepth 100000 in
theorem mc_4_init : (Cond.code yX4_init cX4_init 1 none) ∈ x_big := x_mm (x_t1 (List.mem_of_getElem? (i := 149) rfl)) rfl
set_option maxRecDepth 100000 in
theorem ml_4_3 : (Cond.methodLink RX4 3 objectInit) ∈ x_big := x_mm (x_t1 (List.mem_of_getElem? (i := 150) rfl)) rfl
set_option maxRecDepth 100000 in
theorem mf_4_9 : (Cond.fieldLink RX4 9 "WoodliceSenate$Sightings" "hours" "[I") ∈ x_big := x_mm (x_t1 (List.mem_of_getElem? (i := 151) rfl)) rfl
set_option maxRecDepth 100000 in
theorem mf_4_15 : (Cond.fieldLink RX4 15 "WoodliceSenate$Sightings" "members" "[I") ∈ x_big := x_mm (x_t1 (List.mem_of_getElem? (i := 152) rfl)) rfl
set_option maxRecDepth 100000 in
theorem mf_4_18 : (Cond.fieldLink RX4 18 "WoodliceSenate$Sightings" "places" "[I") ∈ x_big := x_mm (x_t1 (List.mem_of_getElem? (i := 153) rfl)) rfl
set_option maxRecDepth 100000 in
theorem mf_4_21 : (Cond.fieldLink RX4 21 "WoodliceSenate$Sightings" "size" "I") ∈ x_big := x_mm (x_t1 (List.mem_of_getElem? (i := 154) rfl)) rfl
set_option maxRecDepth 100000 in
theorem mcl_6_48 : (Cond.classLink RX6 48 RX0) ∈ x_big := x_mm (x_t1 (List.mem_of_getElem? (i := 165) rfl)) rfl
set_option maxRecDepth 100000 in
theorem mna_0 : (Cond.instantiable RX0 2) ∈ x_big := x_mm (x_t1 (List.mem_of_getElem? (i := 166) rfl)) rfl
set_option maxRecDepth 100000 in
theorem mi_0_init : (Cond.instanceMethod yX0_init) ∈ x_big := x_mm (x_t1 (List.mem_of_getElem? (i := 168) rfl)) rfl
set_option maxRecDepth 100000 in
theorem mc_0_init : (Cond.code yX0_init cX0_init 1 none) ∈ x_big := x_mm (x_t1 (List.mem_of_getElem? (i := 169) rfl)) rfl
set_option maxRecDepth 100000 in
theorem ml_0_3 : (Cond.methodLink RX0 3 objectInit) ∈ x_big := x_mm (x_t1 (List.mem_of_getElem? (i := 170) rfl)) rfl
set_option maxRecDepth 100000 in
theorem mf_0_9 : (Cond.fieldLink RX0 9 "WoodliceSenate$Best" "which" "I") ∈ x_big := x_mm (x_t1 (List.mem_of_getElem? (i := 171) rfl)) rfl
set_option maxRecDepth 100000 in
theorem mf_0_15 : (Cond.fieldLink RX0 15 "WoodliceSenate$Best" "value" "I") ∈ x_big := x_mm (x_t1 (List.mem_of_getElem? (i := 173) rfl)) rfl
set_option maxRecDepth 100000 in
theorem mcl_6_55 : (Cond.classLink RX6 55 RX3) ∈ x_big := x_mm (x_t1 (List.mem_of_getElem? (i := 180) rfl)) rfl
set_option maxRecDepth 100000 in
theorem mna_3 : (Cond.instantiable RX3 3) ∈ x_big := x_mm (x_t1 (List.mem_of_getElem? (i := 183) rfl)) rfl
set_option maxRecDepth 100000 in
theorem mi_3_init : (Cond.instanceMethod yX3_init) ∈ x_big := x_mm (x_t1 (List.mem_of_getElem? (i := 185) rfl)) rfl
set_option maxRecDepth 100000 in
theorem mc_3_init : (Cond.code yX3_init cX3_init 1 none) ∈ x_big := x_mm (x_t1 (List.mem_of_getElem? (i := 186) rfl)) rfl
set_option maxRecDepth 100000 in
theorem ml_3_3 : (Cond.methodLink RX3 3 objectInit) ∈ x_big := x_mm (x_t1 (List.mem_of_getElem? (i := 187) rfl)) rfl
set_option maxRecDepth 100000 in
theorem mf_3_9 : (Cond.fieldLink RX3 9 "WoodliceSenate$Sheet" "items" "[I") ∈ x_big := x_mm (x_t1 (List.mem_of_getElem? (i := 188) rfl)) rfl
set_option maxRecDepth 100000 in
theorem mf_3_15 : (Cond.fieldLink RX3 15 "WoodliceSenate$Sheet" "form" "I") ∈ x_big := x_mm (x_t1 (List.mem_of_getElem? (i := 189) rfl)) rfl
set_option maxRecDepth 100000 in
theorem mf_3_28 : (Cond.fieldLink RX3 28 "WoodliceSenate$Sheet" "size" "I") ∈ x_big := x_mm (x_t1 (List.mem_of_getElem? (i := 191) rfl)) rfl
set_option maxRecDepth 100000 in
theorem ml_6_75 : (Cond.methodLink RX6 75 yX6_readStone) ∈ x_big := x_mm (x_t1 (List.mem_of_getElem? (i := 200) rfl)) rfl
set_option maxRecDepth 100000 in
theorem mi_6_readStone : (Cond.instanceMethod yX6_readStone) ∈ x_big := x_mm (x_t1 (List.mem_of_getElem? (i := 202) rfl)) rfl
set_option maxRecDepth 100000 in
theorem mc_6_readStone : (Cond.code yX6_readStone cX6_readStone 3 none) ∈ x_big := x_mm (x_t1 (List.mem_of_getElem? (i := 203) rfl)) rfl
set_option maxRecDepth 100000 in
theorem ml_6_96 : (Cond.methodLink RX6 96 yX6_faultOfStone) ∈ x_big := x_mm (x_t1 (List.mem_of_getElem? (i := 204) rfl)) rfl
set_option maxRecDepth 100000 in
theorem mi_6_faultOfStone : (Cond.instanceMethod yX6_faultOfStone) ∈ x_big := x_mm (x_t1 (List.mem_of_getElem? (i := 206) rfl)) rfl
set_option maxRecDepth 100000 in
theorem mc_6_faultOfStone : (Cond.code yX6_faultOfStone cX6_faultOfStone 3 (some .int)) ∈ x_big := x_mm (x_t1 (List.mem_of_getElem? (i := 207) rfl)) rfl
set_option maxRecDepth 100000 in
theorem ml_6_89 : (Cond.methodLink RX6 89 yX5_size) ∈ x_big := x_mm (x_t1 (List.mem_of_getElem? (i := 208) rfl)) rfl
set_option maxRecDepth 100000 in
theorem mi_5_size : (Cond.instanceMethod yX5_size) ∈ x_big := x_mm (x_t1 (List.mem_of_getElem? (i := 209) rfl)) rfl
set_option maxRecDepth 100000 in
theorem mv_5_size : (Cond.selects RX5 yX5_size yX5_size) ∈ x_big := x_mm (x_t1 (List.mem_of_getElem? (i := 210) rfl)) rfl
set_option maxRecDepth 100000 in
theorem mc_5_size : (Cond.code yX5_size cX5_size 1 (some .int)) ∈ x_big := x_mm (x_t1 (List.mem_of_getElem? (i := 211) rfl)) rfl
set_option maxRecDepth 100000 in
theorem ml_6_328 : (Cond.methodLink RX6 328 yX5_byteAt) ∈ x_big := x_mm (x_t1 (List.mem_of_getElem? (i := 212) rfl)) rfl
set_option maxRecDepth 100000 in
theorem mi_5_byteAt : (Cond.instanceMethod yX5_byteAt) ∈ x_big := x_mm (x_t1 (List.mem_of_getElem? (i := 213) rfl)) rfl
set_option maxRecDepth 100000 in
theorem mv_5_byteAt : (Cond.selects RX5 yX5_byteAt yX5_byteAt) ∈ x_big := x_mm (x_t1 (List.mem_of_getElem? (i := 214) rfl)) rfl
set_option maxRecDepth 100000 in
theorem mc_5_byteAt : (Cond.code yX5_byteAt cX5_byteAt 2 (some .int)) ∈ x_big := x_mm (x_t1 (List.mem_of_getElem? (i := 215) rfl)) rfl
set_option maxRecDepth 100000 in
theorem ml_6_337 : (Cond.methodLink RX6 337 yX1_setDamp) ∈ x_big := x_mm (x_t1 (List.mem_of_getElem? (i := 216) rfl)) rfl
set_option maxRecDepth 100000 in
theorem mi_1_setDamp : (Cond.instanceMethod yX1_setDamp) ∈ x_big := x_mm (x_t1 (List.mem_of_getElem? (i := 217) rfl)) rfl
set_option maxRecDepth 100000 in
theorem mv_1_setDamp : (Cond.selects RX1 yX1_setDamp yX1_setDamp) ∈ x_big := x_mm (x_t1 (List.mem_of_getElem? (i := 218) rfl)) rfl
set_option maxRecDepth 100000 in
theorem mc_1_setDamp : (Cond.code yX1_setDamp cX1_setDamp 3 none) ∈ x_big := x_mm (x_t1 (List.mem_of_getElem? (i := 219) rfl)) rfl
set_option maxRecDepth 100000 in
theorem ms_6_isPlace : (Cond.static yX6_isPlace) ∈ x_big := x_mm (x_t1 (List.mem_of_getElem? (i := 221) rfl)) rfl
set_option maxRecDepth 100000 in
theorem mc_6_isPlace : (Cond.code yX6_isPlace cX6_isPlace 1 (some .boolean)) ∈ x_big := x_mm (x_t1 (List.mem_of_getElem? (i := 222) rfl)) rfl
set_option maxRecDepth 100000 in
theorem mf_6_14 : (Cond.fieldLink RX6 14 "WoodliceSenate" "stoneText" "LWoodliceSenate$Text;") ∈ x_big := x_mm (x_t1 (List.mem_of_getElem? (i := 223) rfl)) rfl
set_option maxRecDepth 100000 in
theorem mf_6_18 : (Cond.fieldLink RX6 18 "WoodliceSenate" "membersText" "LWoodliceSenate$Text;") ∈ x_big := x_mm (x_t1 (List.mem_of_getElem? (i := 224) rfl)) rfl
set_option maxRecDepth 100000 in
theorem mf_6_24 : (Cond.fieldLink RX6 24 "WoodliceSenate" "told" "LWoodliceSenate$Bill;") ∈ x_big := x_mm (x_t1 (List.mem_of_getElem? (i := 225) rfl)) rfl
set_option maxRecDepth 100000 in
theorem mf_6_28 : (Cond.fieldLink RX6 28 "WoodliceSenate" "draft" "LWoodliceSenate$Bill;") ∈ x_big := x_mm (x_t1 (List.mem_of_getElem? (i := 226) rfl)) rfl
set_option maxRecDepth 100000 in
theorem mf_6_34 : (Cond.fieldLink RX6 34 "WoodliceSenate" "sitting" "LWoodliceSenate$Chamber;") ∈ x_big := x_mm (x_t1 (List.mem_of_getElem? (i := 227) rfl)) rfl
set_option maxRecDepth 100000 in
theorem mf_6_38 : (Cond.fieldLink RX6 38 "WoodliceSenate" "trial" "LWoodliceSenate$Chamber;") ∈ x_big := x_mm (x_t1 (List.mem_of_getElem? (i := 228) rfl)) rfl
set_option maxRecDepth 100000 in
theorem mf_6_44 : (Cond.fieldLink RX6 44 "WoodliceSenate" "sightings" "LWoodliceSenate$Sightings;") ∈ x_big := x_mm (x_t1 (List.mem_of_getElem? (i := 229) rfl)) rfl
set_option maxRecDepth 100000 in
theorem mf_6_51 : (Cond.fieldLink RX6 51 "WoodliceSenate" "best" "LWoodliceSenate$Best;") ∈ x_big := x_mm (x_t1 (List.mem_of_getElem? (i := 230) rfl)) rfl
set_option maxRecDepth 100000 in
theorem mf_6_57 : (Cond.fieldLink RX6 57 "WoodliceSenate" "sheets" "[LWoodliceSenate$Sheet;") ∈ x_big := x_mm (x_t1 (List.mem_of_getElem? (i := 231) rfl)) rfl
set_option maxRecDepth 100000 in
theorem mf_6_63 : (Cond.fieldLink RX6 63 "WoodliceSenate" "dampByFirst" "[[I") ∈ x_big := x_mm (x_t1 (List.mem_of_getElem? (i := 232) rfl)) rfl
set_option maxRecDepth 100000 in
theorem mf_6_66 : (Cond.fieldLink RX6 66 "WoodliceSenate" "tally" "[I") ∈ x_big := x_mm (x_t1 (List.mem_of_getElem? (i := 233) rfl)) rfl
set_option maxRecDepth 100000 in
theorem mf_6_70 : (Cond.fieldLink RX6 70 "WoodliceSenate" "stale" "Z") ∈ x_big := x_mm (x_t1 (List.mem_of_getElem? (i := 234) rfl)) rfl
set_option maxRecDepth 100000 in
theorem mf_6_302 : (Cond.fieldLink RX6 302 "WoodliceSenate" "latestFinding" "I") ∈ x_big := x_mm (x_t1 (List.mem_of_getElem? (i := 235) rfl)) rfl
set_option maxRecDepth 100000 in
theorem mf_6_219 : (Cond.fieldLink RX6 219 "WoodliceSenate" "calmSize" "I") ∈ x_big := x_mm (x_t1 (List.mem_of_getElem? (i := 236) rfl)) rfl
set_option maxRecDepth 100000 in
theorem mf_6_222 : (Cond.fieldLink RX6 222 "WoodliceSenate" "calmFirst" "I") ∈ x_big := x_mm (x_t1 (List.mem_of_getElem? (i := 237) rfl)) rfl
set_option maxRecDepth 100000 in
theorem mf_6_225 : (Cond.fieldLink RX6 225 "WoodliceSenate" "calmSecond" "I") ∈ x_big := x_mm (x_t1 (List.mem_of_getElem? (i := 238) rfl)) rfl
set_option maxRecDepth 100000 in
theorem ml_L_13 : (Cond.methodLink RL 13 yX6_type) ∈ x_big := x_mm (x_t2 (List.mem_of_getElem? (i := 32) rfl)) rfl
set_option maxRecDepth 100000 in
theorem mi_6_type : (Cond.instanceMethod yX6_type) ∈ x_big := x_mm (x_t2 (List.mem_of_getElem? (i := 33) rfl)) rfl
set_option maxRecDepth 100000 in
theorem mv_6_type : (Cond.selects RX6 yX6_type yX6_type) ∈ x_big := x_mm (x_t2 (List.mem_of_getElem? (i := 34) rfl)) rfl
set_option maxRecDepth 100000 in
theorem mc_6_type : (Cond.code yX6_type cX6_type 4 (some .int)) ∈ x_big := x_mm (x_t2 (List.mem_of_getElem? (i := 35) rfl)) rfl
set_option maxRecDepth 100000 in
theorem ml_6_78 : (Cond.methodLink RX6 78 yX6_textOf) ∈ x_big := x_mm (x_t2 (List.mem_of_getElem? (i := 36) rfl)) rfl
set_option maxRecDepth 100000 in
theorem mi_6_textOf : (Cond.instanceMethod yX6_textOf) ∈ x_big := x_mm (x_t2 (List.mem_of_getElem? (i := 38) rfl)) rfl
set_option maxRecDepth 100000 in
theorem mc_6_textOf : (Cond.code yX6_textOf cX6_textOf 2 (some (.object "WoodliceSenate$Text"))) ∈ x_big := x_mm (x_t2 (List.mem_of_getElem? (i := 39) rfl)) rfl
set_option maxRecDepth 100000 in
theorem ml_6_82 : (Cond.methodLink RX6 82 yX5_append) ∈ x_big := x_mm (x_t2 (List.mem_of_getElem? (i := 40) rfl)) rfl
set_option maxRecDepth 100000 in
theorem mi_5_append : (Cond.instanceMethod yX5_append) ∈ x_big := x_mm (x_t2 (List.mem_of_getElem? (i := 41) rfl)) rfl
set_option maxRecDepth 100000 in
theorem mv_5_append : (Cond.selects RX5 yX5_append yX5_append) ∈ x_big := x_mm (x_t2 (List.mem_of_getElem? (i := 42) rfl)) rfl
set_option maxRecDepth 100000 in
theorem mc_5_append : (Cond.code yX5_append cX5_append 2 (some .boolean)) ∈ x_big := x_mm (x_t2 (List.mem_of_getElem? (i := 43) rfl)) rfl
set_option maxRecDepth 100000 in
theorem ml_6_86 : (Cond.methodLink RX6 86 yX6_readTexts) ∈ x_big := x_mm (x_t2 (List.mem_of_getElem? (i := 44) rfl)) rfl
set_option maxRecDepth 100000 in
theorem mi_6_readTexts : (Cond.instanceMethod yX6_readTexts) ∈ x_big := x_mm (x_t2 (List.mem_of_getElem? (i := 46) rfl)) rfl
set_option maxRecDepth 100000 in
theorem mc_6_readTexts : (Cond.code yX6_readTexts cX6_readTexts 1 none) ∈ x_big := x_mm (x_t2 (List.mem_of_getElem? (i := 47) rfl)) rfl
set_option maxRecDepth 100000 in
theorem ml_6_334 : (Cond.methodLink RX6 334 yX6_readMembers) ∈ x_big := x_mm (x_t2 (List.mem_of_getElem? (i := 48) rfl)) rfl
set_option maxRecDepth 100000 in
theorem mi_6_readMembers : (Cond.instanceMethod yX6_readMembers) ∈ x_big := x_mm (x_t2 (List.mem_of_getElem? (i := 50) rfl)) rfl
set_option maxRecDepth 100000 in
theorem mc_6_readMembers : (Cond.code yX6_readMembers cX6_readMembers 4 none) ∈ x_big := x_mm (x_t2 (List.mem_of_getElem? (i := 51) rfl)) rfl
set_option maxRecDepth 100000 in
theorem ml_6_340 : (Cond.methodLink RX6 340 yX1_dropMembers) ∈ x_big := x_mm (x_t2 (List.mem_of_getElem? (i := 52) rfl)) rfl
set_option maxRecDepth 100000 in
theorem mi_1_dropMembers : (Cond.instanceMethod yX1_dropMembers) ∈ x_big := x_mm (x_t2 (List.mem_of_getElem? (i := 53) rfl)) rfl
set_option maxRecDepth 100000 in
theorem mv_1_dropMembers : (Cond.selects RX1 yX1_dropMembers yX1_dropMembers) ∈ x_big := x_mm (x_t2 (List.mem_of_getElem? (i := 54) rfl)) rfl
set_option maxRecDepth 100000 in
theorem mc_1_dropMembers : (Cond.code yX1_dropMembers cX1_dropMembers 1 none) ∈ x_big := x_mm (x_t2 (List.mem_of_getElem? (i := 55) rfl)) rfl
set_option maxRecDepth 100000 in
theorem ml_6_99 : (Cond.methodLink RX6 99 yX6_faultOfMembers) ∈ x_big := x_mm (x_t2 (List.mem_of_getElem? (i := 56) rfl)) rfl
set_option maxRecDepth 100000 in
theorem mi_6_faultOfMembers : (Cond.instanceMethod yX6_faultOfMembers) ∈ x_big := x_mm (x_t2 (List.mem_of_getElem? (i := 58) rfl)) rfl
set_option maxRecDepth 100000 in
theorem mc_6_faultOfMembers : (Cond.code yX6_faultOfMembers cX6_faultOfMembers 3 (some .int)) ∈ x_big := x_mm (x_t2 (List.mem_of_getElem? (i := 59) rfl)) rfl
set_option maxRecDepth 100000 in
theorem ml_6_331 : (Cond.methodLink RX6 331 yX6_canStand) ∈ x_big := x_mm (x_t2 (List.mem_of_getElem? (i := 60) rfl)) rfl
set_option maxRecDepth 100000 in
theorem ms_6_canStand : (Cond.static yX6_canStand) ∈ x_big := x_mm (x_t2 (List.mem_of_getElem? (i := 61) rfl)) rfl
set_option maxRecDepth 100000 in
theorem mc_6_canStand : (Cond.code yX6_canStand cX6_canStand 2 (some .boolean)) ∈ x_big := x_mm (x_t2 (List.mem_of_getElem? (i := 62) rfl)) rfl
set_option maxRecDepth 100000 in
theorem ml_6_343 : (Cond.methodLink RX6 343 yX6_sortNamed) ∈ x_big := x_mm (x_t2 (List.mem_of_getElem? (i := 63) rfl)) rfl
set_option maxRecDepth 100000 in
theorem ms_6_sortNamed : (Cond.static yX6_sortNamed) ∈ x_big := x_mm (x_t2 (List.mem_of_getElem? (i := 64) rfl)) rfl
set_option maxRecDepth 100000 in
theorem mc_6_sortNamed : (Cond.code yX6_sortNamed cX6_sortNamed 1 (some .int)) ∈ x_big := x_mm (x_t2 (List.mem_of_getElem? (i := 65) rfl)) rfl
set_option maxRecDepth 100000 in
theorem ml_6_346 : (Cond.methodLink RX6 346 yX1_addMember) ∈ x_big := x_mm (x_t2 (List.mem_of_getElem? (i := 66) rfl)) rfl
set_option maxRecDepth 100000 in
theorem mi_1_addMember : (Cond.instanceMethod yX1_addMember) ∈ x_big := x_mm (x_t2 (List.mem_of_getElem? (i := 67) rfl)) rfl
set_option maxRecDepth 100000 in
theorem mv_1_addMember : (Cond.selects RX1 yX1_addMember yX1_addMember) ∈ x_big := x_mm (x_t2 (List.mem_of_getElem? (i := 68) rfl)) rfl
set_option maxRecDepth 100000 in
theorem mc_1_addMember : (Cond.code yX1_addMember cX1_addMember 4 none) ∈ x_big := x_mm (x_t2 (List.mem_of_getElem? (i := 69) rfl)) rfl
set_option maxRecDepth 100000 in
theorem ml_L_18 : (Cond.methodLink RL 18 yX6_wipe) ∈ x_big := x_mm (x_t2 (List.mem_of_getElem? (i := 70) rfl)) rfl
set_option maxRecDepth 100000 in
theorem mi_6_wipe : (Cond.instanceMethod yX6_wipe) ∈ x_big := x_mm (x_t2 (List.mem_of_getElem? (i := 71) rfl)) rfl
set_option maxRecDepth 100000 in
theorem mv_6_wipe : (Cond.selects RX6 yX6_wipe yX6_wipe) ∈ x_big := x_mm (x_t2 (List.mem_of_getElem? (i := 72) rfl)) rfl
set_option maxRecDepth 100000 in
theorem mc_6_wipe : (Cond.code yX6_wipe cX6_wipe 4 (some .int)) ∈ x_big := x_mm (x_t2 (List.mem_of_getElem? (i := 73) rfl)) rfl
set_option maxRecDepth 100000 in
theorem ml_6_93 : (Cond.methodLink RX6 93 yX5_cutTo) ∈ x_big := x_mm (x_t2 (List.mem_of_getElem? (i := 74) rfl)) rfl
set_option maxRecDepth 100000 in
theorem mi_5_cutTo : (Cond.instanceMethod yX5_cutTo) ∈ x_big := x_mm (x_t2 (List.mem_of_getElem? (i := 75) rfl)) rfl
set_option maxRecDepth 100000 in
theorem mv_5_cutTo : (Cond.selects RX5 yX5_cutTo yX5_cutTo) ∈ x_big := x_mm (x_t2 (List.mem_of_getElem? (i := 76) rfl)) rfl
set_option maxRecDepth 100000 in
theorem mc_5_cutTo : (Cond.code yX5_cutTo cX5_cutTo 2 none) ∈ x_big := x_mm (x_t2 (List.mem_of_getElem? (i := 77) rfl)) rfl
set_option maxRecDepth 100000 in
theorem ml_5_25 : (Cond.methodLink RX5 25 Lib.Math.min.name) ∈ x_big := x_mm (x_t2 (List.mem_of_getElem? (i := 78) rfl)) rfl
set_option maxRecDepth 100000 in
theorem ms_min : (Cond.static Lib.Math.min.name) ∈ x_big := x_mm (x_t2 (List.mem_of_getElem? (i := 79) rfl)) rfl
set_option maxRecDepth 100000 in
theorem mc_min : (Cond.code Lib.Math.min.name Lib.Math.min.code 2 (some .int)) ∈ x_big := x_mm (x_t2 (List.mem_of_getElem? (i := 80) rfl)) rfl
set_option maxRecDepth 100000 in
theorem ml_L_23 : (Cond.methodLink RL 23 yX6_undo) ∈ x_big := x_mm (x_t2 (List.mem_of_getElem? (i := 81) rfl)) rfl
set_option maxRecDepth 100000 in
theorem mi_6_undo : (Cond.instanceMethod yX6_undo) ∈ x_big := x_mm (x_t2 (List.mem_of_getElem? (i := 82) rfl)) rfl
set_option maxRecDepth 100000 in
theorem mv_6_undo : (Cond.selects RX6 yX6_undo yX6_undo) ∈ x_big := x_mm (x_t2 (List.mem_of_getElem? (i := 83) rfl)) rfl
set_option maxRecDepth 100000 in
theorem mc_6_undo : (Cond.code yX6_undo cX6_undo 3 (some .int)) ∈ x_big := x_mm (x_t2 (List.mem_of_getElem? (i := 84) rfl)) rfl
set_option maxRecDepth 100000 in
theorem ml_L_27 : (Cond.methodLink RL 27 yX6_fault) ∈ x_big := x_mm (x_t2 (List.mem_of_getElem? (i := 85) rfl)) rfl
set_option maxRecDepth 100000 in
theorem mi_6_fault : (Cond.instanceMethod yX6_fault) ∈ x_big := x_mm (x_t2 (List.mem_of_getElem? (i := 86) rfl)) rfl
set_option maxRecDepth 100000 in
theorem mv_6_fault : (Cond.selects RX6 yX6_fault yX6_fault) ∈ x_big := x_mm (x_t2 (List.mem_of_getElem? (i := 87) rfl)) rfl
set_option maxRecDepth 100000 in
theorem mc_6_fault : (Cond.code yX6_fault cX6_fault 2 (some .int)) ∈ x_big := x_mm (x_t2 (List.mem_of_getElem? (i := 88) rfl)) rfl
set_option maxRecDepth 100000 in
theorem ml_L_31 : (Cond.methodLink RL 31 yX6_stone) ∈ x_big := x_mm (x_t2 (List.mem_of_getElem? (i := 89) rfl)) rfl
set_option maxRecDepth 100000 in
theorem mi_6_stone : (Cond.instanceMethod yX6_stone) ∈ x_big := x_mm (x_t2 (List.mem_of_getElem? (i := 90) rfl)) rfl
set_option maxRecDepth 100000 in
theorem mv_6_stone : (Cond.selects RX6 yX6_stone yX6_stone) ∈ x_big := x_mm (x_t2 (List.mem_of_getElem? (i := 91) rfl)) rfl
set_option maxRecDepth 100000 in
theorem mc_6_stone : (Cond.code yX6_stone cX6_stone 2 (some .int)) ∈ x_big := x_mm (x_t2 (List.mem_of_getElem? (i := 92) rfl)) rfl
set_option maxRecDepth 100000 in
theorem ml_6_102 : (Cond.methodLink RX6 102 yX6_isPlace) ∈ x_big := x_mm (x_t2 (List.mem_of_getElem? (i := 93) rfl)) rfl
set_option maxRecDepth 100000 in
theorem ml_6_105 : (Cond.methodLink RX6 105 yX1_dampAt) ∈ x_big := x_mm (x_t2 (List.mem_of_getElem? (i := 94) rfl)) rfl
set_option maxRecDepth 100000 in
theorem mi_1_dampAt : (Cond.instanceMethod yX1_dampAt) ∈ x_big := x_mm (x_t2 (List.mem_of_getElem? (i := 95) rfl)) rfl
set_option maxRecDepth 100000 in
theorem mv_1_dampAt : (Cond.selects RX1 yX1_dampAt yX1_dampAt) ∈ x_big := x_mm (x_t2 (List.mem_of_getElem? (i := 96) rfl)) rfl
set_option maxRecDepth 100000 in
theorem mc_1_dampAt : (Cond.code yX1_dampAt cX1_dampAt 2 (some .int)) ∈ x_big := x_mm (x_t2 (List.mem_of_getElem? (i := 97) rfl)) rfl
set_option maxRecDepth 100000 in
theorem ml_L_35 : (Cond.methodLink RL 35 yX6_member) ∈ x_big := x_mm (x_t2 (List.mem_of_getElem? (i := 98) rfl)) rfl
set_option maxRecDepth 100000 in
theorem mi_6_member : (Cond.instanceMethod yX6_member) ∈ x_big := x_mm (x_t2 (List.mem_of_getElem? (i := 99) rfl)) rfl
set_option maxRecDepth 100000 in
theorem mv_6_member : (Cond.selects RX6 yX6_member yX6_member) ∈ x_big := x_mm (x_t2 (List.mem_of_getElem? (i := 100) rfl)) rfl
set_option maxRecDepth 100000 in
theorem mc_6_member : (Cond.code yX6_member cX6_member 3 (some .int)) ∈ x_big := x_mm (x_t2 (List.mem_of_getElem? (i := 101) rfl)) rfl
set_option maxRecDepth 100000 in
theorem ml_6_109 : (Cond.methodLink RX6 109 yX1_hasMember) ∈ x_big := x_mm (x_t2 (List.mem_of_getElem? (i := 102) rfl)) rfl
set_option maxRecDepth 100000 in
theorem mi_1_hasMember : (Cond.instanceMethod yX1_hasMember) ∈ x_big := x_mm (x_t2 (List.mem_of_getElem? (i := 103) rfl)) rfl
set_option maxRecDepth 100000 in
theorem mv_1_hasMember : (Cond.selects RX1 yX1_hasMember yX1_hasMember) ∈ x_big := x_mm (x_t2 (List.mem_of_getElem? (i := 104) rfl)) rfl
set_option maxRecDepth 100000 in
theorem mc_1_hasMember : (Cond.code yX1_hasMember cX1_hasMember 2 (some .boolean)) ∈ x_big := x_mm (x_t2 (List.mem_of_getElem? (i := 105) rfl)) rfl
set_option maxRecDepth 100000 in
theorem ml_6_112 : (Cond.methodLink RX6 112 yX1_sortOf) ∈ x_big := x_mm (x_t2 (List.mem_of_getElem? (i := 106) rfl)) rfl
set_option maxRecDepth 100000 in
theorem mi_1_sortOf : (Cond.instanceMethod yX1_sortOf) ∈ x_big := x_mm (x_t2 (List.mem_of_getElem? (i := 107) rfl)) rfl
set_option maxRecDepth 100000 in
theorem mv_1_sortOf : (Cond.selects RX1 yX1_sortOf yX1_sortOf) ∈ x_big := x_mm (x_t2 (List.mem_of_getElem? (i := 108) rfl)) rfl
set_option maxRecDepth 100000 in
theorem mc_1_sortOf : (Cond.code yX1_sortOf cX1_sortOf 2 (some .int)) ∈ x_big := x_mm (x_t2 (List.mem_of_getElem? (i := 109) rfl)) rfl
set_option maxRecDepth 100000 in
theorem ml_1_61 : (Cond.methodLink RX1 61 yX1_hasMember) ∈ x_big := x_mm (x_t2 (List.mem_of_getElem? (i := 110) rfl)) rfl
set_option maxRecDepth 100000 in
theorem ml_6_115 : (Cond.methodLink RX6 115 yX1_placeOf) ∈ x_big := x_mm (x_t2 (List.mem_of_getElem? (i := 111) rfl)) rfl
set_option maxRecDepth 100000 in
theorem mi_1_placeOf : (Cond.instanceMethod yX1_placeOf) ∈ x_big := x_mm (x_t2 (List.mem_of_getElem? (i := 112) rfl)) rfl
set_option maxRecDepth 100000 in
theorem mv_1_placeOf : (Cond.selects RX1 yX1_placeOf yX1_placeOf) ∈ x_big := x_mm (x_t2 (List.mem_of_getElem? (i := 113) rfl)) rfl
set_option maxRecDepth 100000 in
theorem mc_1_placeOf : (Cond.code yX1_placeOf cX1_placeOf 2 (some .int)) ∈ x_big := x_mm (x_t2 (List.mem_of_getElem? (i := 114) rfl)) rfl
set_option maxRecDepth 100000 in
theorem ml_6_118 : (Cond.methodLink RX6 118 yX1_uprightOf) ∈ x_big := x_mm (x_t2 (List.mem_of_getElem? (i := 115) rfl)) rfl
set_option maxRecDepth 100000 in
theorem mi_1_uprightOf : (Cond.instanceMethod yX1_uprightOf) ∈ x_big := x_mm (x_t2 (List.mem_of_getElem? (i := 116) rfl)) rfl
set_option maxRecDepth 100000 in
theorem mv_1_uprightOf : (Cond.selects RX1 yX1_uprightOf yX1_uprightOf) ∈ x_big := x_mm (x_t2 (List.mem_of_getElem? (i := 117) rfl)) rfl
set_option maxRecDepth 100000 in
theorem mc_1_uprightOf : (Cond.code yX1_uprightOf cX1_uprightOf 2 (some .int)) ∈ x_big := x_mm (x_t2 (List.mem_of_getElem? (i := 118) rfl)) rfl
set_option maxRecDepth 100000 in
theorem ml_L_39 : (Cond.methodLink RL 39 yX6_event) ∈ x_big := x_mm (x_t2 (List.mem_of_getElem? (i := 119) rfl)) rfl
set_option maxRecDepth 100000 in
theorem mi_6_event : (Cond.instanceMethod yX6_event) ∈ x_big := x_mm (x_t2 (List.mem_of_getElem? (i := 120) rfl)) rfl
set_option maxRecDepth 100000 in
theorem mv_6_event : (Cond.selects RX6 yX6_event yX6_event) ∈ x_big := x_mm (x_t2 (List.mem_of_getElem? (i := 121) rfl)) rfl
set_option maxRecDepth 100000 in
theorem mc_6_event : (Cond.code yX6_event cX6_event 4 (some .int)) ∈ x_big := x_mm (x_t2 (List.mem_of_getElem? (i := 122) rfl)) rfl
set_option maxRecDepth 100000 in
theorem ml_6_121 : (Cond.methodLink RX6 121 yX6_isHour) ∈ x_big := x_mm (x_t2 (List.mem_of_getElem? (i := 123) rfl)) rfl
set_option maxRecDepth 100000 in
theorem ms_6_isHour : (Cond.static yX6_isHour) ∈ x_big := x_mm (x_t2 (List.mem_of_getElem? (i := 124) rfl)) rfl
set_option maxRecDepth 100000 in
theorem mc_6_isHour : (Cond.code yX6_isHour cX6_isHour 1 (some .boolean)) ∈ x_big := x_mm (x_t2 (List.mem_of_getElem? (i := 125) rfl)) rfl
set_option maxRecDepth 100000 in
theorem ml_6_128 : (Cond.methodLink RX6 128 yX1_addEvent) ∈ x_big := x_mm (x_t2 (List.mem_of_getElem? (i := 126) rfl)) rfl
set_option maxRecDepth 100000 in
theorem mi_1_addEvent : (Cond.instanceMethod yX1_addEvent) ∈ x_big := x_mm (x_t2 (List.mem_of_getElem? (i := 127) rfl)) rfl
set_option maxRecDepth 100000 in
theorem mv_1_addEvent : (Cond.selects RX1 yX1_addEvent yX1_addEvent) ∈ x_big := x_mm (x_t2 (List.mem_of_getElem? (i := 128) rfl)) rfl
set_option maxRecDepth 100000 in
theorem mc_1_addEvent : (Cond.code yX1_addEvent cX1_addEvent 4 none) ∈ x_big := x_mm (x_t2 (List.mem_of_getElem? (i := 129) rfl)) rfl
set_option maxRecDepth 100000 in
theorem ml_L_44 : (Cond.methodLink RL 44 yX6_back) ∈ x_big := x_mm (x_t2 (List.mem_of_getElem? (i := 130) rfl)) rfl
set_option maxRecDepth 100000 in
theorem mi_6_back : (Cond.instanceMethod yX6_back) ∈ x_big := x_mm (x_t2 (List.mem_of_getElem? (i := 131) rfl)) rfl
set_option maxRecDepth 100000 in
theorem mv_6_back : (Cond.selects RX6 yX6_back yX6_back) ∈ x_big := x_mm (x_t2 (List.mem_of_getElem? (i := 132) rfl)) rfl
set_option maxRecDepth 100000 in
theorem mc_6_back : (Cond.code yX6_back cX6_back 1 (some .int)) ∈ x_big := x_mm (x_t2 (List.mem_of_getElem? (i := 133) rfl)) rfl
set_option maxRecDepth 100000 in
theorem ml_6_132 : (Cond.methodLink RX6 132 yX1_dropEvents) ∈ x_big := x_mm (x_t2 (List.mem_of_getElem? (i := 134) rfl)) rfl
set_option maxRecDepth 100000 in
theorem mi_1_dropEvents : (Cond.instanceMethod yX1_dropEvents) ∈ x_big := x_mm (x_t2 (List.mem_of_getElem? (i := 135) rfl)) rfl
set_option maxRecDepth 100000 in
theorem mv_1_dropEvents : (Cond.selects RX1 yX1_dropEvents yX1_dropEvents) ∈ x_big := x_mm (x_t2 (List.mem_of_getElem? (i := 136) rfl)) rfl
set_option maxRecDepth 100000 in
theorem mc_1_dropEvents : (Cond.code yX1_dropEvents cX1_dropEvents 2 none) ∈ x_big := x_mm (x_t2 (List.mem_of_getElem? (i := 137) rfl)) rfl
set_option maxRecDepth 100000 in
theorem ml_1_48 : (Cond.methodLink RX1 48 Lib.Math.min.name) ∈ x_big := x_mm (x_t2 (List.mem_of_getElem? (i := 138) rfl)) rfl
set_option maxRecDepth 100000 in
theorem ml_1_54 : (Cond.methodLink RX1 54 Lib.Math.max.name) ∈ x_big := x_mm (x_t2 (List.mem_of_getElem? (i := 139) rfl)) rfl
set_option maxRecDepth 100000 in
theorem ml_L_49 : (Cond.methodLink RL 49 yX6_read) ∈ x_big := x_mm (x_t2 (List.mem_of_getElem? (i := 140) rfl)) rfl
set_option maxRecDepth 100000 in
theorem mi_6_read : (Cond.instanceMethod yX6_read) ∈ x_big := x_mm (x_t2 (List.mem_of_getElem? (i := 141) rfl)) rfl
set_option maxRecDepth 100000 in
theorem mv_6_read : (Cond.selects RX6 yX6_read yX6_read) ∈ x_big := x_mm (x_t2 (List.mem_of_getElem? (i := 142) rfl)) rfl
set_option maxRecDepth 100000 in
theorem mc_6_read : (Cond.code yX6_read cX6_read 5 (some .int)) ∈ x_big := x_mm (x_t2 (List.mem_of_getElem? (i := 143) rfl)) rfl
set_option maxRecDepth 100000 in
theorem ml_6_135 : (Cond.methodLink RX6 135 yX6_sheetOf) ∈ x_big := x_mm (x_t2 (List.mem_of_getElem? (i := 144) rfl)) rfl
set_option maxRecDepth 100000 in
theorem mi_6_sheetOf : (Cond.instanceMethod yX6_sheetOf) ∈ x_big := x_mm (x_t2 (List.mem_of_getElem? (i := 146) rfl)) rfl
set_option maxRecDepth 100000 in
theorem mc_6_sheetOf : (Cond.code yX6_sheetOf cX6_sheetOf 2 (some (.object "WoodliceSenate$Sheet"))) ∈ x_big := x_mm (x_t2 (List.mem_of_getElem? (i := 147) rfl)) rfl
set_option maxRecDepth 100000 in
theorem ml_6_139 : (Cond.methodLink RX6 139 yX3_isLost) ∈ x_big := x_mm (x_t2 (List.mem_of_getElem? (i := 148) rfl)) rfl
set_option maxRecDepth 100000 in
theorem mi_3_isLost : (Cond.instanceMethod yX3_isLost) ∈ x_big := x_mm (x_t2 (List.mem_of_getElem? (i := 149) rfl)) rfl
set_option maxRecDepth 100000 in
theorem mv_3_isLost : (Cond.selects RX3 yX3_isLost yX3_isLost) ∈ x_big := x_mm (x_t2 (List.mem_of_getElem? (i := 150) rfl)) rfl
set_option maxRecDepth 100000 in
theorem mc_3_isLost : (Cond.code yX3_isLost cX3_isLost 1 (some .boolean)) ∈ x_big := x_mm (x_t2 (List.mem_of_getElem? (i := 151) rfl)) rfl
set_option maxRecDepth 100000 in
theorem ml_6_143 : (Cond.methodLink RX6 143 yX6_finding) ∈ x_big := x_mm (x_t2 (List.mem_of_getElem? (i := 152) rfl)) rfl
set_option maxRecDepth 100000 in
theorem mi_6_finding : (Cond.instanceMethod yX6_finding) ∈ x_big := x_mm (x_t2 (List.mem_of_getElem? (i := 154) rfl)) rfl
set_option maxRecDepth 100000 in
theorem mc_6_finding : (Cond.code yX6_finding cX6_finding 2 (some .int)) ∈ x_big := x_mm (x_t2 (List.mem_of_getElem? (i := 155) rfl)) rfl
set_option maxRecDepth 100000 in
theorem ml_6_148 : (Cond.methodLink RX6 148 yX3_item) ∈ x_big := x_mm (x_t2 (List.mem_of_getElem? (i := 156) rfl)) rfl
set_option maxRecDepth 100000 in
theorem mi_3_item : (Cond.instanceMethod yX3_item) ∈ x_big := x_mm (x_t2 (List.mem_of_getElem? (i := 157) rfl)) rfl
set_option maxRecDepth 100000 in
theorem mv_3_item : (Cond.selects RX3 yX3_item yX3_item) ∈ x_big := x_mm (x_t2 (List.mem_of_getElem? (i := 158) rfl)) rfl
set_option maxRecDepth 100000 in
theorem mc_3_item : (Cond.code yX3_item cX3_item 2 (some .int)) ∈ x_big := x_mm (x_t2 (List.mem_of_getElem? (i := 159) rfl)) rfl
set_option maxRecDepth 100000 in
theorem ml_3_31 : (Cond.methodLink RX3 31 yX3_hasItem) ∈ x_big := x_mm (x_t2 (List.mem_of_getElem? (i := 160) rfl)) rfl
set_option maxRecDepth 100000 in
theorem mi_3_hasItem : (Cond.instanceMethod yX3_hasItem) ∈ x_big := x_mm (x_t2 (List.mem_of_getElem? (i := 161) rfl)) rfl
set_option maxRecDepth 100000 in
theorem mv_3_hasItem : (Cond.selects RX3 yX3_hasItem yX3_hasItem) ∈ x_big := x_mm (x_t2 (List.mem_of_getElem? (i := 162) rfl)) rfl
set_option maxRecDepth 100000 in
theorem mc_3_hasItem : (Cond.code yX3_hasItem cX3_hasItem 2 (some .boolean)) ∈ x_big := x_mm (x_t2 (List.mem_of_getElem? (i := 163) rfl)) rfl
set_option maxRecDepth 100000 in
theorem ml_6_151 : (Cond.methodLink RX6 151 yX6_event) ∈ x_big := x_mm (x_t2 (List.mem_of_getElem? (i := 164) rfl)) rfl
set_option maxRecDepth 100000 in
theorem ml_L_53 : (Cond.methodLink RL 53 yX6_damp) ∈ x_big := x_mm (x_t2 (List.mem_of_getElem? (i := 165) rfl)) rfl
set_option maxRecDepth 100000 in
theorem mi_6_damp : (Cond.instanceMethod yX6_damp) ∈ x_big := x_mm (x_t2 (List.mem_of_getElem? (i := 166) rfl)) rfl
set_option maxRecDepth 100000 in
theorem mv_6_damp : (Cond.selects RX6 yX6_damp yX6_damp) ∈ x_big := x_mm (x_t2 (List.mem_of_getElem? (i := 167) rfl)) rfl
set_option maxRecDepth 100000 in
theorem mc_6_damp : (Cond.code yX6_damp cX6_damp 5 (some .int)) ∈ x_big := x_mm (x_t2 (List.mem_of_getElem? (i := 168) rfl)) rfl
set_option maxRecDepth 100000 in
theorem ml_6_155 : (Cond.methodLink RX6 155 yX6_chamberAsTold) ∈ x_big := x_mm (x_t2 (List.mem_of_getElem? (i := 169) rfl)) rfl
set_option maxRecDepth 100000 in
theorem mi_6_chamberAsTold : (Cond.instanceMethod yX6_chamberAsTold) ∈ x_big := x_mm (x_t2 (List.mem_of_getElem? (i := 171) rfl)) rfl
set_option maxRecDepth 100000 in
theorem mc_6_chamberAsTold : (Cond.code yX6_chamberAsTold cX6_chamberAsTold 1 (some (.object "WoodliceSenate$Chamber"))) ∈ x_big := x_mm (x_t2 (List.mem_of_getElem? (i := 172) rfl)) rfl
set_option maxRecDepth 100000 in
theorem ml_6_241 : (Cond.methodLink RX6 241 yX2_sit) ∈ x_big := x_mm (x_t2 (List.mem_of_getElem? (i := 173) rfl)) rfl
set_option maxRecDepth 100000 in
theorem mi_2_sit : (Cond.instanceMethod yX2_sit) ∈ x_big := x_mm (x_t2 (List.mem_of_getElem? (i := 174) rfl)) rfl
set_option maxRecDepth 100000 in
theorem mv_2_sit : (Cond.selects RX2 yX2_sit yX2_sit) ∈ x_big := x_mm (x_t2 (List.mem_of_getElem? (i := 175) rfl)) rfl
set_option maxRecDepth 100000 in
theorem mc_2_sit : (Cond.code yX2_sit cX2_sit 4 none) ∈ x_big := x_mm (x_t2 (List.mem_of_getElem? (i := 176) rfl)) rfl
set_option maxRecDepth 100000 in
theorem ml_2_63 : (Cond.methodLink RX2 63 yX2_begin) ∈ x_big := x_mm (x_t2 (List.mem_of_getElem? (i := 177) rfl)) rfl
set_option maxRecDepth 100000 in
theorem mi_2_begin : (Cond.instanceMethod yX2_begin) ∈ x_big := x_mm (x_t2 (List.mem_of_getElem? (i := 179) rfl)) rfl
set_option maxRecDepth 100000 in
theorem mc_2_begin : (Cond.code yX2_begin cX2_begin 3 none) ∈ x_big := x_mm (x_t2 (List.mem_of_getElem? (i := 180) rfl)) rfl
set_option maxRecDepth 100000 in
theorem ml_2_94 : (Cond.methodLink RX2 94 Lib.Math.min.name) ∈ x_big := x_mm (x_t2 (List.mem_of_getElem? (i := 181) rfl)) rfl
set_option maxRecDepth 100000 in
theorem ml_2_100 : (Cond.methodLink RX2 100 Lib.Math.max.name) ∈ x_big := x_mm (x_t2 (List.mem_of_getElem? (i := 182) rfl)) rfl
set_option maxRecDepth 100000 in
theorem ml_2_67 : (Cond.methodLink RX2 67 yX2_doEvents) ∈ x_big := x_mm (x_t2 (List.mem_of_getElem? (i := 183) rfl)) rfl
set_option maxRecDepth 100000 in
theorem mi_2_doEvents : (Cond.instanceMethod yX2_doEvents) ∈ x_big := x_mm (x_t2 (List.mem_of_getElem? (i := 185) rfl)) rfl
set_option maxRecDepth 100000 in
theorem mc_2_doEvents : (Cond.code yX2_doEvents cX2_doEvents 5 none) ∈ x_big := x_mm (x_t2 (List.mem_of_getElem? (i := 186) rfl)) rfl
set_option maxRecDepth 100000 in
theorem ml_2_119 : (Cond.methodLink RX2 119 yX2_lift) ∈ x_big := x_mm (x_t2 (List.mem_of_getElem? (i := 187) rfl)) rfl
set_option maxRecDepth 100000 in
theorem mi_2_lift : (Cond.instanceMethod yX2_lift) ∈ x_big := x_mm (x_t2 (List.mem_of_getElem? (i := 189) rfl)) rfl
set_option maxRecDepth 100000 in
theorem mc_2_lift : (Cond.code yX2_lift cX2_lift 3 none) ∈ x_big := x_mm (x_t2 (List.mem_of_getElem? (i := 190) rfl)) rfl
set_option maxRecDepth 100000 in
theorem ml_2_125 : (Cond.methodLink RX2 125 yX2_pepper) ∈ x_big := x_mm (x_t2 (List.mem_of_getElem? (i := 191) rfl)) rfl
set_option maxRecDepth 100000 in
theorem mi_2_pepper : (Cond.instanceMethod yX2_pepper) ∈ x_big := x_mm (x_t2 (List.mem_of_getElem? (i := 193) rfl)) rfl
set_option maxRecDepth 100000 in
theorem mc_2_pepper : (Cond.code yX2_pepper cX2_pepper 3 none) ∈ x_big := x_mm (x_t2 (List.mem_of_getElem? (i := 194) rfl)) rfl
set_option maxRecDepth 100000 in
theorem ml_2_128 : (Cond.methodLink RX2 128 yX2_wetAll) ∈ x_big := x_mm (x_t2 (List.mem_of_getElem? (i := 195) rfl)) rfl
set_option maxRecDepth 100000 in
theorem mi_2_wetAll : (Cond.instanceMethod yX2_wetAll) ∈ x_big := x_mm (x_t2 (List.mem_of_getElem? (i := 197) rfl)) rfl
set_option maxRecDepth 100000 in
theorem mc_2_wetAll : (Cond.code yX2_wetAll cX2_wetAll 4 none) ∈ x_big := x_mm (x_t2 (List.mem_of_getElem? (i := 198) rfl)) rfl
set_option maxRecDepth 100000 in
theorem ml_2_71 : (Cond.methodLink RX2 71 yX2_letMembersGo) ∈ x_big := x_mm (x_t2 (List.mem_of_getElem? (i := 199) rfl)) rfl
set_option maxRecDepth 100000 in
theorem mi_2_letMembersGo : (Cond.instanceMethod yX2_letMembersGo) ∈ x_big := x_mm (x_t2 (List.mem_of_getElem? (i := 201) rfl)) rfl
set_option maxRecDepth 100000 in
theorem mc_2_letMembersGo : (Cond.code yX2_letMembersGo cX2_letMembersGo 5 none) ∈ x_big := x_mm (x_t2 (List.mem_of_getElem? (i := 202) rfl)) rfl
set_option maxRecDepth 100000 in
theorem ml_2_131 : (Cond.methodLink RX2 131 yX2_stepsOf) ∈ x_big := x_mm (x_t2 (List.mem_of_getElem? (i := 203) rfl)) rfl
set_option maxRecDepth 100000 in
theorem ms_2_stepsOf : (Cond.static yX2_stepsOf) ∈ x_big := x_mm (x_t2 (List.mem_of_getElem? (i := 204) rfl)) rfl
set_option maxRecDepth 100000 in
theorem mc_2_stepsOf : (Cond.code yX2_stepsOf cX2_stepsOf 2 (some .int)) ∈ x_big := x_mm (x_t2 (List.mem_of_getElem? (i := 205) rfl)) rfl
set_option maxRecDepth 100000 in
theorem ml_2_134 : (Cond.methodLink RX2 134 yX2_step) ∈ x_big := x_mm (x_t2 (List.mem_of_getElem? (i := 206) rfl)) rfl
set_option maxRecDepth 100000 in
theorem mi_2_step : (Cond.instanceMethod yX2_step) ∈ x_big := x_mm (x_t2 (List.mem_of_getElem? (i := 208) rfl)) rfl
set_option maxRecDepth 100000 in
theorem mc_2_step : (Cond.code yX2_step cX2_step 4 (some .boolean)) ∈ x_big := x_mm (x_t2 (List.mem_of_getElem? (i := 209) rfl)) rfl
set_option maxRecDepth 100000 in
theorem ml_2_138 : (Cond.methodLink RX2 138 yX2_passOver) ∈ x_big := x_mm (x_t2 (List.mem_of_getElem? (i := 210) rfl)) rfl
set_option maxRecDepth 100000 in
theorem mi_2_passOver : (Cond.instanceMethod yX2_passOver) ∈ x_big := x_mm (x_t2 (List.mem_of_getElem? (i := 212) rfl)) rfl
set_option maxRecDepth 100000 in
theorem mc_2_passOver : (Cond.code yX2_passOver cX2_passOver 3 none) ∈ x_big := x_mm (x_t2 (List.mem_of_getElem? (i := 213) rfl)) rfl
set_option maxRecDepth 100000 in
theorem ml_2_75 : (Cond.methodLink RX2 75 yX2_countHeads) ∈ x_big := x_mm (x_t2 (List.mem_of_getElem? (i := 214) rfl)) rfl
set_option maxRecDepth 100000 in
theorem mi_2_countHeads : (Cond.instanceMethod yX2_countHeads) ∈ x_big := x_mm (x_t2 (List.mem_of_getElem? (i := 216) rfl)) rfl
set_option maxRecDepth 100000 in
theorem mc_2_countHeads : (Cond.code yX2_countHeads cX2_countHeads 3 none) ∈ x_big := x_mm (x_t2 (List.mem_of_getElem? (i := 217) rfl)) rfl
set_option maxRecDepth 100000 in
theorem ml_2_78 : (Cond.methodLink RX2 78 yX2_dryCrowdedPlaces) ∈ x_big := x_mm (x_t2 (List.mem_of_getElem? (i := 219) rfl)) rfl
set_option maxRecDepth 100000 in
theorem mi_2_dryCrowdedPlaces : (Cond.instanceMethod yX2_dryCrowdedPlaces) ∈ x_big := x_mm (x_t2 (List.mem_of_getElem? (i := 221) rfl)) rfl
set_option maxRecDepth 100000 in
theorem mc_2_dryCrowdedPlaces : (Cond.code yX2_dryCrowdedPlaces cX2_dryCrowdedPlaces 2 none) ∈ x_big := x_mm (x_t2 (List.mem_of_getElem? (i := 222) rfl)) rfl
set_option maxRecDepth 100000 in
theorem ml_2_81 : (Cond.methodLink RX2 81 yX2_divide) ∈ x_big := x_mm (x_t2 (List.mem_of_getElem? (i := 223) rfl)) rfl
set_option maxRecDepth 100000 in
theorem mi_2_divide : (Cond.instanceMethod yX2_divide) ∈ x_big := x_mm (x_t2 (List.mem_of_getElem? (i := 225) rfl)) rfl
set_option maxRecDepth 100000 in
theorem mc_2_divide : (Cond.code yX2_divide cX2_divide 3 none) ∈ x_big := x_mm (x_t2 (List.mem_of_getElem? (i := 226) rfl)) rfl
set_option maxRecDepth 100000 in
theorem ml_2_84 : (Cond.methodLink RX2 84 yX2_keepRecord) ∈ x_big := x_mm (x_t2 (List.mem_of_getElem? (i := 228) rfl)) rfl
set_option maxRecDepth 100000 in
theorem mi_2_keepRecord : (Cond.instanceMethod yX2_keepRecord) ∈ x_big := x_mm (x_t2 (List.mem_of_getElem? (i := 230) rfl)) rfl
set_option maxRecDepth 100000 in
theorem mc_2_keepRecord : (Cond.code yX2_keepRecord cX2_keepRecord 3 none) ∈ x_big := x_mm (x_t2 (List.mem_of_getElem? (i := 231) rfl)) rfl
set_option maxRecDepth 100000 in
theorem ml_6_159 : (Cond.methodLink RX6 159 yX2_dampOf) ∈ x_big := x_mm (x_t2 (List.mem_of_getElem? (i := 232) rfl)) rfl
set_option maxRecDepth 100000 in
theorem mi_2_dampOf : (Cond.instanceMethod yX2_dampOf) ∈ x_big := x_mm (x_t2 (List.mem_of_getElem? (i := 233) rfl)) rfl
set_option maxRecDepth 100000 in
theorem mv_2_dampOf : (Cond.selects RX2 yX2_dampOf yX2_dampOf) ∈ x_big := x_mm (x_t2 (List.mem_of_getElem? (i := 234) rfl)) rfl
set_option maxRecDepth 100000 in
theorem mc_2_dampOf : (Cond.code yX2_dampOf cX2_dampOf 3 (some .int)) ∈ x_big := x_mm (x_t2 (List.mem_of_getElem? (i := 235) rfl)) rfl
set_option maxRecDepth 100000 in
theorem ml_6_163 : (Cond.methodLink RX6 163 yX2_headsAt) ∈ x_big := x_mm (x_t2 (List.mem_of_getElem? (i := 236) rfl)) rfl
set_option maxRecDepth 100000 in
theorem mi_2_headsAt : (Cond.instanceMethod yX2_headsAt) ∈ x_big := x_mm (x_t2 (List.mem_of_getElem? (i := 237) rfl)) rfl
set_option maxRecDepth 100000 in
theorem mv_2_headsAt : (Cond.selects RX2 yX2_headsAt yX2_headsAt) ∈ x_big := x_mm (x_t2 (List.mem_of_getElem? (i := 238) rfl)) rfl
set_option maxRecDepth 100000 in
theorem mc_2_headsAt : (Cond.code yX2_headsAt cX2_headsAt 3 (some .int)) ∈ x_big := x_mm (x_t2 (List.mem_of_getElem? (i := 239) rfl)) rfl
set_option maxRecDepth 100000 in
theorem ml_L_57 : (Cond.methodLink RL 57 yX6_at) ∈ x_big := x_mm (x_t3 (List.mem_of_getElem? (i := 0) rfl)) rfl
set_option maxRecDepth 100000 in
theorem mi_6_at : (Cond.instanceMethod yX6_at) ∈ x_big := x_mm (x_t3 (List.mem_of_getElem? (i := 1) rfl)) rfl
set_option maxRecDepth 100000 in
theorem mv_6_at : (Cond.selects RX6 yX6_at yX6_at) ∈ x_big := x_mm (x_t3 (List.mem_of_getElem? (i := 2) rfl)) rfl
set_option maxRecDepth 100000 in
theorem mc_6_at : (Cond.code yX6_at cX6_at 4 (some .int)) ∈ x_big := x_mm (x_t3 (List.mem_of_getElem? (i := 3) rfl)) rfl
set_option maxRecDepth 100000 in
theorem ml_6_166 : (Cond.methodLink RX6 166 yX2_ofMember) ∈ x_big := x_mm (x_t3 (List.mem_of_getElem? (i := 4) rfl)) rfl
set_option maxRecDepth 100000 in
theorem mi_2_ofMember : (Cond.instanceMethod yX2_ofMember) ∈ x_big := x_mm (x_t3 (List.mem_of_getElem? (i := 5) rfl)) rfl
set_option maxRecDepth 100000 in
theorem mv_2_ofMember : (Cond.selects RX2 yX2_ofMember yX2_ofMember) ∈ x_big := x_mm (x_t3 (List.mem_of_getElem? (i := 6) rfl)) rfl
set_option maxRecDepth 100000 in
theorem mc_2_ofMember : (Cond.code yX2_ofMember cX2_ofMember 4 (some .int)) ∈ x_big := x_mm (x_t3 (List.mem_of_getElem? (i := 7) rfl)) rfl
set_option maxRecDepth 100000 in
theorem ml_L_61 : (Cond.methodLink RL 61 yX6_house) ∈ x_big := x_mm (x_t3 (List.mem_of_getElem? (i := 8) rfl)) rfl
set_option maxRecDepth 100000 in
theorem mi_6_house : (Cond.instanceMethod yX6_house) ∈ x_big := x_mm (x_t3 (List.mem_of_getElem? (i := 9) rfl)) rfl
set_option maxRecDepth 100000 in
theorem mv_6_house : (Cond.selects RX6 yX6_house yX6_house) ∈ x_big := x_mm (x_t3 (List.mem_of_getElem? (i := 10) rfl)) rfl
set_option maxRecDepth 100000 in
theorem mc_6_house : (Cond.code yX6_house cX6_house 4 (some .int)) ∈ x_big := x_mm (x_t3 (List.mem_of_getElem? (i := 11) rfl)) rfl
set_option maxRecDepth 100000 in
theorem ml_6_169 : (Cond.methodLink RX6 169 yX2_ayesOf) ∈ x_big := x_mm (x_t3 (List.mem_of_getElem? (i := 12) rfl)) rfl
set_option maxRecDepth 100000 in
theorem mi_2_ayesOf : (Cond.instanceMethod yX2_ayesOf) ∈ x_big := x_mm (x_t3 (List.mem_of_getElem? (i := 13) rfl)) rfl
set_option maxRecDepth 100000 in
theorem mv_2_ayesOf : (Cond.selects RX2 yX2_ayesOf yX2_ayesOf) ∈ x_big := x_mm (x_t3 (List.mem_of_getElem? (i := 14) rfl)) rfl
set_option maxRecDepth 100000 in
theorem mc_2_ayesOf : (Cond.code yX2_ayesOf cX2_ayesOf 2 (some .int)) ∈ x_big := x_mm (x_t3 (List.mem_of_getElem? (i := 15) rfl)) rfl
set_option maxRecDepth 100000 in
theorem ml_6_172 : (Cond.methodLink RX6 172 yX2_noesOf) ∈ x_big := x_mm (x_t3 (List.mem_of_getElem? (i := 16) rfl)) rfl
set_option maxRecDepth 100000 in
theorem mi_2_noesOf : (Cond.instanceMethod yX2_noesOf) ∈ x_big := x_mm (x_t3 (List.mem_of_getElem? (i := 17) rfl)) rfl
set_option maxRecDepth 100000 in
theorem mv_2_noesOf : (Cond.selects RX2 yX2_noesOf yX2_noesOf) ∈ x_big := x_mm (x_t3 (List.mem_of_getElem? (i := 18) rfl)) rfl
set_option maxRecDepth 100000 in
theorem mc_2_noesOf : (Cond.code yX2_noesOf cX2_noesOf 2 (some .int)) ∈ x_big := x_mm (x_t3 (List.mem_of_getElem? (i := 19) rfl)) rfl
set_option maxRecDepth 100000 in
theorem ml_6_175 : (Cond.methodLink RX6 175 yX2_carries) ∈ x_big := x_mm (x_t3 (List.mem_of_getElem? (i := 20) rfl)) rfl
set_option maxRecDepth 100000 in
theorem mi_2_carries : (Cond.instanceMethod yX2_carries) ∈ x_big := x_mm (x_t3 (List.mem_of_getElem? (i := 21) rfl)) rfl
set_option maxRecDepth 100000 in
theorem mv_2_carries : (Cond.selects RX2 yX2_carries yX2_carries) ∈ x_big := x_mm (x_t3 (List.mem_of_getElem? (i := 22) rfl)) rfl
set_option maxRecDepth 100000 in
theorem mc_2_carries : (Cond.code yX2_carries cX2_carries 2 (some .boolean)) ∈ x_big := x_mm (x_t3 (List.mem_of_getElem? (i := 23) rfl)) rfl
set_option maxRecDepth 100000 in
theorem ml_L_65 : (Cond.methodLink RL 65 yX6_governments) ∈ x_big := x_mm (x_t3 (List.mem_of_getElem? (i := 24) rfl)) rfl
set_option maxRecDepth 100000 in
theorem mi_6_governments : (Cond.instanceMethod yX6_governments) ∈ x_big := x_mm (x_t3 (List.mem_of_getElem? (i := 25) rfl)) rfl
set_option maxRecDepth 100000 in
theorem mv_6_governments : (Cond.selects RX6 yX6_governments yX6_governments) ∈ x_big := x_mm (x_t3 (List.mem_of_getElem? (i := 26) rfl)) rfl
set_option maxRecDepth 100000 in
theorem mc_6_governments : (Cond.code yX6_governments cX6_governments 1 (some .int)) ∈ x_big := x_mm (x_t3 (List.mem_of_getElem? (i := 27) rfl)) rfl
set_option maxRecDepth 100000 in
theorem ml_6_178 : (Cond.methodLink RX6 178 yX2_governmentsInAll) ∈ x_big := x_mm (x_t3 (List.mem_of_getElem? (i := 28) rfl)) rfl
set_option maxRecDepth 100000 in
theorem mi_2_governmentsInAll : (Cond.instanceMethod yX2_governmentsInAll) ∈ x_big := x_mm (x_t3 (List.mem_of_getElem? (i := 29) rfl)) rfl
set_option maxRecDepth 100000 in
theorem mv_2_governmentsInAll : (Cond.selects RX2 yX2_governmentsInAll yX2_governmentsInAll) ∈ x_big := x_mm (x_t3 (List.mem_of_getElem? (i := 30) rfl)) rfl
set_option maxRecDepth 100000 in
theorem mc_2_governmentsInAll : (Cond.code yX2_governmentsInAll cX2_governmentsInAll 3 (some .int)) ∈ x_big := x_mm (x_t3 (List.mem_of_getElem? (i := 31) rfl)) rfl
set_option maxRecDepth 100000 in
theorem ml_2_147 : (Cond.methodLink RX2 147 yX2_carries) ∈ x_big := x_mm (x_t3 (List.mem_of_getElem? (i := 32) rfl)) rfl
set_option maxRecDepth 100000 in
theorem ml_L_69 : (Cond.methodLink RL 69 yX6_carried) ∈ x_big := x_mm (x_t3 (List.mem_of_getElem? (i := 33) rfl)) rfl
set_option maxRecDepth 100000 in
theorem mi_6_carried : (Cond.instanceMethod yX6_carried) ∈ x_big := x_mm (x_t3 (List.mem_of_getElem? (i := 34) rfl)) rfl
set_option maxRecDepth 100000 in
theorem mv_6_carried : (Cond.selects RX6 yX6_carried yX6_carried) ∈ x_big := x_mm (x_t3 (List.mem_of_getElem? (i := 35) rfl)) rfl
set_option maxRecDepth 100000 in
theorem mc_6_carried : (Cond.code yX6_carried cX6_carried 1 (some .int)) ∈ x_big := x_mm (x_t3 (List.mem_of_getElem? (i := 36) rfl)) rfl
set_option maxRecDepth 100000 in
theorem ml_6_181 : (Cond.methodLink RX6 181 yX2_carriedInAll) ∈ x_big := x_mm (x_t3 (List.mem_of_getElem? (i := 37) rfl)) rfl
set_option maxRecDepth 100000 in
theorem mi_2_carriedInAll : (Cond.instanceMethod yX2_carriedInAll) ∈ x_big := x_mm (x_t3 (List.mem_of_getElem? (i := 38) rfl)) rfl
set_option maxRecDepth 100000 in
theorem mv_2_carriedInAll : (Cond.selects RX2 yX2_carriedInAll yX2_carriedInAll) ∈ x_big := x_mm (x_t3 (List.mem_of_getElem? (i := 39) rfl)) rfl
set_option maxRecDepth 100000 in
theorem mc_2_carriedInAll : (Cond.code yX2_carriedInAll cX2_carriedInAll 3 (some .int)) ∈ x_big := x_mm (x_t3 (List.mem_of_getElem? (i := 40) rfl)) rfl
set_option maxRecDepth 100000 in
theorem ml_L_73 : (Cond.methodLink RL 73 yX6_crowd) ∈ x_big := x_mm (x_t3 (List.mem_of_getElem? (i := 41) rfl)) rfl
set_option maxRecDepth 100000 in
theorem mi_6_crowd : (Cond.instanceMethod yX6_crowd) ∈ x_big := x_mm (x_t3 (List.mem_of_getElem? (i := 42) rfl)) rfl
set_option maxRecDepth 100000 in
theorem mv_6_crowd : (Cond.selects RX6 yX6_crowd yX6_crowd) ∈ x_big := x_mm (x_t3 (List.mem_of_getElem? (i := 43) rfl)) rfl
set_option maxRecDepth 100000 in
theorem mc_6_crowd : (Cond.code yX6_crowd cX6_crowd 2 (some .int)) ∈ x_big := x_mm (x_t3 (List.mem_of_getElem? (i := 44) rfl)) rfl
set_option maxRecDepth 100000 in
theorem ml_6_187 : (Cond.methodLink RX6 187 yX6_findCrowd) ∈ x_big := x_mm (x_t3 (List.mem_of_getElem? (i := 45) rfl)) rfl
set_option maxRecDepth 100000 in
theorem mi_6_findCrowd : (Cond.instanceMethod yX6_findCrowd) ∈ x_big := x_mm (x_t3 (List.mem_of_getElem? (i := 47) rfl)) rfl
set_option maxRecDepth 100000 in
theorem mc_6_findCrowd : (Cond.code yX6_findCrowd cX6_findCrowd 4 none) ∈ x_big := x_mm (x_t3 (List.mem_of_getElem? (i := 48) rfl)) rfl
set_option maxRecDepth 100000 in
theorem ml_6_197 : (Cond.methodLink RX6 197 yX0_start) ∈ x_big := x_mm (x_t3 (List.mem_of_getElem? (i := 49) rfl)) rfl
set_option maxRecDepth 100000 in
theorem mi_0_start : (Cond.instanceMethod yX0_start) ∈ x_big := x_mm (x_t3 (List.mem_of_getElem? (i := 50) rfl)) rfl
set_option maxRecDepth 100000 in
theorem mv_0_start : (Cond.selects RX0 yX0_start yX0_start) ∈ x_big := x_mm (x_t3 (List.mem_of_getElem? (i := 51) rfl)) rfl
set_option maxRecDepth 100000 in
theorem mc_0_start : (Cond.code yX0_start cX0_start 1 none) ∈ x_big := x_mm (x_t3 (List.mem_of_getElem? (i := 52) rfl)) rfl
set_option maxRecDepth 100000 in
theorem ml_6_200 : (Cond.methodLink RX6 200 yX0_offer) ∈ x_big := x_mm (x_t3 (List.mem_of_getElem? (i := 53) rfl)) rfl
set_option maxRecDepth 100000 in
theorem mi_0_offer : (Cond.instanceMethod yX0_offer) ∈ x_big := x_mm (x_t3 (List.mem_of_getElem? (i := 54) rfl)) rfl
set_option maxRecDepth 100000 in
theorem mv_0_offer : (Cond.selects RX0 yX0_offer yX0_offer) ∈ x_big := x_mm (x_t3 (List.mem_of_getElem? (i := 55) rfl)) rfl
set_option maxRecDepth 100000 in
theorem mc_0_offer : (Cond.code yX0_offer cX0_offer 3 none) ∈ x_big := x_mm (x_t3 (List.mem_of_getElem? (i := 56) rfl)) rfl
set_option maxRecDepth 100000 in
theorem ml_L_77 : (Cond.methodLink RL 77 yX6_orator) ∈ x_big := x_mm (x_t3 (List.mem_of_getElem? (i := 57) rfl)) rfl
set_option maxRecDepth 100000 in
theorem mi_6_orator : (Cond.instanceMethod yX6_orator) ∈ x_big := x_mm (x_t3 (List.mem_of_getElem? (i := 58) rfl)) rfl
set_option maxRecDepth 100000 in
theorem mv_6_orator : (Cond.selects RX6 yX6_orator yX6_orator) ∈ x_big := x_mm (x_t3 (List.mem_of_getElem? (i := 59) rfl)) rfl
set_option maxRecDepth 100000 in
theorem mc_6_orator : (Cond.code yX6_orator cX6_orator 3 (some .int)) ∈ x_big := x_mm (x_t3 (List.mem_of_getElem? (i := 60) rfl)) rfl
set_option maxRecDepth 100000 in
theorem ml_L_81 : (Cond.methodLink RL 81 yX6_still) ∈ x_big := x_mm (x_t3 (List.mem_of_getElem? (i := 61) rfl)) rfl
set_option maxRecDepth 100000 in
theorem mi_6_still : (Cond.instanceMethod yX6_still) ∈ x_big := x_mm (x_t3 (List.mem_of_getElem? (i := 62) rfl)) rfl
set_option maxRecDepth 100000 in
theorem mv_6_still : (Cond.selects RX6 yX6_still yX6_still) ∈ x_big := x_mm (x_t3 (List.mem_of_getElem? (i := 63) rfl)) rfl
set_option maxRecDepth 100000 in
theorem mc_6_still : (Cond.code yX6_still cX6_still 1 (some .int)) ∈ x_big := x_mm (x_t3 (List.mem_of_getElem? (i := 64) rfl)) rfl
set_option maxRecDepth 100000 in
theorem ml_6_204 : (Cond.methodLink RX6 204 yX2_stillMembers) ∈ x_big := x_mm (x_t3 (List.mem_of_getElem? (i := 65) rfl)) rfl
set_option maxRecDepth 100000 in
theorem mi_2_stillMembers : (Cond.instanceMethod yX2_stillMembers) ∈ x_big := x_mm (x_t3 (List.mem_of_getElem? (i := 66) rfl)) rfl
set_option maxRecDepth 100000 in
theorem mv_2_stillMembers : (Cond.selects RX2 yX2_stillMembers yX2_stillMembers) ∈ x_big := x_mm (x_t3 (List.mem_of_getElem? (i := 67) rfl)) rfl
set_option maxRecDepth 100000 in
theorem mc_2_stillMembers : (Cond.code yX2_stillMembers cX2_stillMembers 1 (some .int)) ∈ x_big := x_mm (x_t3 (List.mem_of_getElem? (i := 68) rfl)) rfl
set_option maxRecDepth 100000 in
theorem ml_L_85 : (Cond.methodLink RL 85 yX6_seat) ∈ x_big := x_mm (x_t3 (List.mem_of_getElem? (i := 69) rfl)) rfl
set_option maxRecDepth 100000 in
theorem mi_6_seat : (Cond.instanceMethod yX6_seat) ∈ x_big := x_mm (x_t3 (List.mem_of_getElem? (i := 70) rfl)) rfl
set_option maxRecDepth 100000 in
theorem mv_6_seat : (Cond.selects RX6 yX6_seat yX6_seat) ∈ x_big := x_mm (x_t3 (List.mem_of_getElem? (i := 71) rfl)) rfl
set_option maxRecDepth 100000 in
theorem mc_6_seat : (Cond.code yX6_seat cX6_seat 3 (some .int)) ∈ x_big := x_mm (x_t3 (List.mem_of_getElem? (i := 72) rfl)) rfl
set_option maxRecDepth 100000 in
theorem ml_6_207 : (Cond.methodLink RX6 207 yX6_findSeat) ∈ x_big := x_mm (x_t3 (List.mem_of_getElem? (i := 73) rfl)) rfl
set_option maxRecDepth 100000 in
theorem mi_6_findSeat : (Cond.instanceMethod yX6_findSeat) ∈ x_big := x_mm (x_t3 (List.mem_of_getElem? (i := 75) rfl)) rfl
set_option maxRecDepth 100000 in
theorem mc_6_findSeat : (Cond.code yX6_findSeat cX6_findSeat 3 none) ∈ x_big := x_mm (x_t3 (List.mem_of_getElem? (i := 76) rfl)) rfl
set_option maxRecDepth 100000 in
theorem ml_6_233 : (Cond.methodLink RX6 233 yX1_takeAll) ∈ x_big := x_mm (x_t3 (List.mem_of_getElem? (i := 77) rfl)) rfl
set_option maxRecDepth 100000 in
theorem mi_1_takeAll : (Cond.instanceMethod yX1_takeAll) ∈ x_big := x_mm (x_t3 (List.mem_of_getElem? (i := 78) rfl)) rfl
set_option maxRecDepth 100000 in
theorem mv_1_takeAll : (Cond.selects RX1 yX1_takeAll yX1_takeAll) ∈ x_big := x_mm (x_t3 (List.mem_of_getElem? (i := 79) rfl)) rfl
set_option maxRecDepth 100000 in
theorem mc_1_takeAll : (Cond.code yX1_takeAll cX1_takeAll 3 none) ∈ x_big := x_mm (x_t3 (List.mem_of_getElem? (i := 80) rfl)) rfl
set_option maxRecDepth 100000 in
theorem ml_1_37 : (Cond.methodLink RX1 37 yX1_takeEvents) ∈ x_big := x_mm (x_t3 (List.mem_of_getElem? (i := 81) rfl)) rfl
set_option maxRecDepth 100000 in
theorem mi_1_takeEvents : (Cond.instanceMethod yX1_takeEvents) ∈ x_big := x_mm (x_t3 (List.mem_of_getElem? (i := 82) rfl)) rfl
set_option maxRecDepth 100000 in
theorem mv_1_takeEvents : (Cond.selects RX1 yX1_takeEvents yX1_takeEvents) ∈ x_big := x_mm (x_t3 (List.mem_of_getElem? (i := 83) rfl)) rfl
set_option maxRecDepth 100000 in
theorem mc_1_takeEvents : (Cond.code yX1_takeEvents cX1_takeEvents 4 none) ∈ x_big := x_mm (x_t3 (List.mem_of_getElem? (i := 84) rfl)) rfl
set_option maxRecDepth 100000 in
theorem ml_1_44 : (Cond.methodLink RX1 44 yX1_addEvent) ∈ x_big := x_mm (x_t3 (List.mem_of_getElem? (i := 85) rfl)) rfl
set_option maxRecDepth 100000 in
theorem ml_6_349 : (Cond.methodLink RX6 349 yX1_setPlace) ∈ x_big := x_mm (x_t3 (List.mem_of_getElem? (i := 86) rfl)) rfl
set_option maxRecDepth 100000 in
theorem mi_1_setPlace : (Cond.instanceMethod yX1_setPlace) ∈ x_big := x_mm (x_t3 (List.mem_of_getElem? (i := 87) rfl)) rfl
set_option maxRecDepth 100000 in
theorem mv_1_setPlace : (Cond.selects RX1 yX1_setPlace yX1_setPlace) ∈ x_big := x_mm (x_t3 (List.mem_of_getElem? (i := 88) rfl)) rfl
set_option maxRecDepth 100000 in
theorem mc_1_setPlace : (Cond.code yX1_setPlace cX1_setPlace 3 none) ∈ x_big := x_mm (x_t3 (List.mem_of_getElem? (i := 89) rfl)) rfl
set_option maxRecDepth 100000 in
theorem ml_L_89 : (Cond.methodLink RL 89 yX6_dust) ∈ x_big := x_mm (x_t3 (List.mem_of_getElem? (i := 90) rfl)) rfl
set_option maxRecDepth 100000 in
theorem mi_6_dust : (Cond.instanceMethod yX6_dust) ∈ x_big := x_mm (x_t3 (List.mem_of_getElem? (i := 91) rfl)) rfl
set_option maxRecDepth 100000 in
theorem mv_6_dust : (Cond.selects RX6 yX6_dust yX6_dust) ∈ x_big := x_mm (x_t3 (List.mem_of_getElem? (i := 92) rfl)) rfl
set_option maxRecDepth 100000 in
theorem mc_6_dust : (Cond.code yX6_dust cX6_dust 3 (some .int)) ∈ x_big := x_mm (x_t3 (List.mem_of_getElem? (i := 93) rfl)) rfl
set_option maxRecDepth 100000 in
theorem ml_6_210 : (Cond.methodLink RX6 210 yX6_findDust) ∈ x_big := x_mm (x_t3 (List.mem_of_getElem? (i := 94) rfl)) rfl
set_option maxRecDepth 100000 in
theorem mi_6_findDust : (Cond.instanceMethod yX6_findDust) ∈ x_big := x_mm (x_t3 (List.mem_of_getElem? (i := 96) rfl)) rfl
set_option maxRecDepth 100000 in
theorem mc_6_findDust : (Cond.code yX6_findDust cX6_findDust 3 none) ∈ x_big := x_mm (x_t3 (List.mem_of_getElem? (i := 97) rfl)) rfl
set_option maxRecDepth 100000 in
theorem ml_6_352 : (Cond.methodLink RX6 352 yX6_sitWithOneMore) ∈ x_big := x_mm (x_t3 (List.mem_of_getElem? (i := 98) rfl)) rfl
set_option maxRecDepth 100000 in
theorem mi_6_sitWithOneMore : (Cond.instanceMethod yX6_sitWithOneMore) ∈ x_big := x_mm (x_t3 (List.mem_of_getElem? (i := 100) rfl)) rfl
set_option maxRecDepth 100000 in
theorem mc_6_sitWithOneMore : (Cond.code yX6_sitWithOneMore cX6_sitWithOneMore 4 none) ∈ x_big := x_mm (x_t3 (List.mem_of_getElem? (i := 101) rfl)) rfl
set_option maxRecDepth 100000 in
theorem ml_L_93 : (Cond.methodLink RL 93 yX6_boy) ∈ x_big := x_mm (x_t3 (List.mem_of_getElem? (i := 102) rfl)) rfl
set_option maxRecDepth 100000 in
theorem mi_6_boy : (Cond.instanceMethod yX6_boy) ∈ x_big := x_mm (x_t3 (List.mem_of_getElem? (i := 103) rfl)) rfl
set_option maxRecDepth 100000 in
theorem mv_6_boy : (Cond.selects RX6 yX6_boy yX6_boy) ∈ x_big := x_mm (x_t3 (List.mem_of_getElem? (i := 104) rfl)) rfl
set_option maxRecDepth 100000 in
theorem mc_6_boy : (Cond.code yX6_boy cX6_boy 2 (some .int)) ∈ x_big := x_mm (x_t3 (List.mem_of_getElem? (i := 105) rfl)) rfl
set_option maxRecDepth 100000 in
theorem ml_6_213 : (Cond.methodLink RX6 213 yX6_findBoy) ∈ x_big := x_mm (x_t3 (List.mem_of_getElem? (i := 106) rfl)) rfl
set_option maxRecDepth 100000 in
theorem mi_6_findBoy : (Cond.instanceMethod yX6_findBoy) ∈ x_big := x_mm (x_t3 (List.mem_of_getElem? (i := 108) rfl)) rfl
set_option maxRecDepth 100000 in
theorem mc_6_findBoy : (Cond.code yX6_findBoy cX6_findBoy 2 none) ∈ x_big := x_mm (x_t3 (List.mem_of_getElem? (i := 109) rfl)) rfl
set_option maxRecDepth 100000 in
theorem ml_L_97 : (Cond.methodLink RL 97 yX6_calm) ∈ x_big := x_mm (x_t3 (List.mem_of_getElem? (i := 110) rfl)) rfl
set_option maxRecDepth 100000 in
theorem mi_6_calm : (Cond.instanceMethod yX6_calm) ∈ x_big := x_mm (x_t3 (List.mem_of_getElem? (i := 111) rfl)) rfl
set_option maxRecDepth 100000 in
theorem mv_6_calm : (Cond.selects RX6 yX6_calm yX6_calm) ∈ x_big := x_mm (x_t3 (List.mem_of_getElem? (i := 112) rfl)) rfl
set_option maxRecDepth 100000 in
theorem mc_6_calm : (Cond.code yX6_calm cX6_calm 2 (some .int)) ∈ x_big := x_mm (x_t3 (List.mem_of_getElem? (i := 113) rfl)) rfl
set_option maxRecDepth 100000 in
theorem ml_6_216 : (Cond.methodLink RX6 216 yX6_findCalm) ∈ x_big := x_mm (x_t3 (List.mem_of_getElem? (i := 114) rfl)) rfl
set_option maxRecDepth 100000 in
theorem mi_6_findCalm : (Cond.instanceMethod yX6_findCalm) ∈ x_big := x_mm (x_t3 (List.mem_of_getElem? (i := 116) rfl)) rfl
set_option maxRecDepth 100000 in
theorem mc_6_findCalm : (Cond.code yX6_findCalm cX6_findCalm 3 none) ∈ x_big := x_mm (x_t3 (List.mem_of_getElem? (i := 117) rfl)) rfl
set_option maxRecDepth 100000 in
theorem ml_6_355 : (Cond.methodLink RX6 355 yX6_isCalmWithout) ∈ x_big := x_mm (x_t3 (List.mem_of_getElem? (i := 118) rfl)) rfl
set_option maxRecDepth 100000 in
theorem mi_6_isCalmWithout : (Cond.instanceMethod yX6_isCalmWithout) ∈ x_big := x_mm (x_t3 (List.mem_of_getElem? (i := 120) rfl)) rfl
set_option maxRecDepth 100000 in
theorem mc_6_isCalmWithout : (Cond.code yX6_isCalmWithout cX6_isCalmWithout 2 (some .boolean)) ∈ x_big := x_mm (x_t3 (List.mem_of_getElem? (i := 121) rfl)) rfl
set_option maxRecDepth 100000 in
theorem ml_6_237 : (Cond.methodLink RX6 237 yX1_takeEvents) ∈ x_big := x_mm (x_t3 (List.mem_of_getElem? (i := 122) rfl)) rfl
set_option maxRecDepth 100000 in
theorem ml_6_358 : (Cond.methodLink RX6 358 yX6_setCalm) ∈ x_big := x_mm (x_t3 (List.mem_of_getElem? (i := 123) rfl)) rfl
set_option maxRecDepth 100000 in
theorem mi_6_setCalm : (Cond.instanceMethod yX6_setCalm) ∈ x_big := x_mm (x_t3 (List.mem_of_getElem? (i := 125) rfl)) rfl
set_option maxRecDepth 100000 in
theorem mc_6_setCalm : (Cond.code yX6_setCalm cX6_setCalm 4 none) ∈ x_big := x_mm (x_t3 (List.mem_of_getElem? (i := 126) rfl)) rfl
set_option maxRecDepth 100000 in
theorem ml_L_101 : (Cond.methodLink RL 101 yX6_seen) ∈ x_big := x_mm (x_t3 (List.mem_of_getElem? (i := 127) rfl)) rfl
set_option maxRecDepth 100000 in
theorem mi_6_seen : (Cond.instanceMethod yX6_seen) ∈ x_big := x_mm (x_t3 (List.mem_of_getElem? (i := 128) rfl)) rfl
set_option maxRecDepth 100000 in
theorem mv_6_seen : (Cond.selects RX6 yX6_seen yX6_seen) ∈ x_big := x_mm (x_t3 (List.mem_of_getElem? (i := 129) rfl)) rfl
set_option maxRecDepth 100000 in
theorem mc_6_seen : (Cond.code yX6_seen cX6_seen 4 (some .int)) ∈ x_big := x_mm (x_t3 (List.mem_of_getElem? (i := 130) rfl)) rfl
set_option maxRecDepth 100000 in
theorem ml_6_228 : (Cond.methodLink RX6 228 yX4_add) ∈ x_big := x_mm (x_t3 (List.mem_of_getElem? (i := 131) rfl)) rfl
set_option maxRecDepth 100000 in
theorem mi_4_add : (Cond.instanceMethod yX4_add) ∈ x_big := x_mm (x_t3 (List.mem_of_getElem? (i := 132) rfl)) rfl
set_option maxRecDepth 100000 in
theorem mv_4_add : (Cond.selects RX4 yX4_add yX4_add) ∈ x_big := x_mm (x_t3 (List.mem_of_getElem? (i := 133) rfl)) rfl
set_option maxRecDepth 100000 in
theorem mc_4_add : (Cond.code yX4_add cX4_add 4 (some .boolean)) ∈ x_big := x_mm (x_t3 (List.mem_of_getElem? (i := 134) rfl)) rfl
set_option maxRecDepth 100000 in
theorem ml_L_105 : (Cond.methodLink RL 105 yX6_forget) ∈ x_big := x_mm (x_t3 (List.mem_of_getElem? (i := 135) rfl)) rfl
set_option maxRecDepth 100000 in
theorem mi_6_forget : (Cond.instanceMethod yX6_forget) ∈ x_big := x_mm (x_t3 (List.mem_of_getElem? (i := 136) rfl)) rfl
set_option maxRecDepth 100000 in
theorem mv_6_forget : (Cond.selects RX6 yX6_forget yX6_forget) ∈ x_big := x_mm (x_t3 (List.mem_of_getElem? (i := 137) rfl)) rfl
set_option maxRecDepth 100000 in
theorem mc_6_forget : (Cond.code yX6_forget cX6_forget 2 (some .int)) ∈ x_big := x_mm (x_t3 (List.mem_of_getElem? (i := 138) rfl)) rfl
set_option maxRecDepth 100000 in
theorem ml_L_109 : (Cond.methodLink RL 109 yX6_never) ∈ x_big := x_mm (x_t3 (List.mem_of_getElem? (i := 139) rfl)) rfl
set_option maxRecDepth 100000 in
theorem mi_6_never : (Cond.instanceMethod yX6_never) ∈ x_big := x_mm (x_t3 (List.mem_of_getElem? (i := 140) rfl)) rfl
set_option maxRecDepth 100000 in
theorem mv_6_never : (Cond.selects RX6 yX6_never yX6_never) ∈ x_big := x_mm (x_t3 (List.mem_of_getElem? (i := 141) rfl)) rfl
set_option maxRecDepth 100000 in
theorem mc_6_never : (Cond.code yX6_never cX6_never 3 (some .int)) ∈ x_big := x_mm (x_t3 (List.mem_of_getElem? (i := 142) rfl)) rfl
set_option maxRecDepth 100000 in
theorem ml_6_244 : (Cond.methodLink RX6 244 yX4_comeOutSo) ∈ x_big := x_mm (x_t3 (List.mem_of_getElem? (i := 143) rfl)) rfl
set_option maxRecDepth 100000 in
theorem mi_4_comeOutSo : (Cond.instanceMethod yX4_comeOutSo) ∈ x_big := x_mm (x_t3 (List.mem_of_getElem? (i := 144) rfl)) rfl
set_option maxRecDepth 100000 in
theorem mv_4_comeOutSo : (Cond.selects RX4 yX4_comeOutSo yX4_comeOutSo) ∈ x_big := x_mm (x_t3 (List.mem_of_getElem? (i := 145) rfl)) rfl
set_option maxRecDepth 100000 in
theorem mc_4_comeOutSo : (Cond.code yX4_comeOutSo cX4_comeOutSo 3 (some .boolean)) ∈ x_big := x_mm (x_t3 (List.mem_of_getElem? (i := 146) rfl)) rfl
set_option maxRecDepth 100000 in
theorem ml_4_25 : (Cond.methodLink RX4 25 yX2_ofMember) ∈ x_big := x_mm (x_t3 (List.mem_of_getElem? (i := 147) rfl)) rfl
set_option maxRecDepth 100000 in
theorem ml_L_113 : (Cond.methodLink RL 113 yX6_sort) ∈ x_big := x_mm (x_t3 (List.mem_of_getElem? (i := 148) rfl)) rfl
set_option maxRecDepth 100000 in
theorem mi_6_sort : (Cond.instanceMethod yX6_sort) ∈ x_big := x_mm (x_t3 (List.mem_of_getElem? (i := 149) rfl)) rfl
set_option maxRecDepth 100000 in
theorem mv_6_sort : (Cond.selects RX6 yX6_sort yX6_sort) ∈ x_big := x_mm (x_t3 (List.mem_of_getElem? (i := 150) rfl)) rfl
set_option maxRecDepth 100000 in
theorem mc_6_sort : (Cond.code yX6_sort cX6_sort 2 (some .int)) ∈ x_big := x_mm (x_t3 (List.mem_of_getElem? (i := 151) rfl)) rfl
set_option maxRecDepth 100000 in
theorem ml_6_248 : (Cond.methodLink RX6 248 yX6_sortsThatFit) ∈ x_big := x_mm (x_t3 (List.mem_of_getElem? (i := 152) rfl)) rfl
set_option maxRecDepth 100000 in
theorem mi_6_sortsThatFit : (Cond.instanceMethod yX6_sortsThatFit) ∈ x_big := x_mm (x_t3 (List.mem_of_getElem? (i := 154) rfl)) rfl
set_option maxRecDepth 100000 in
theorem mc_6_sortsThatFit : (Cond.code yX6_sortsThatFit cX6_sortsThatFit 4 (some .int)) ∈ x_big := x_mm (x_t3 (List.mem_of_getElem? (i := 155) rfl)) rfl
set_option maxRecDepth 100000 in
theorem ml_6_361 : (Cond.methodLink RX6 361 yX1_setSort) ∈ x_big := x_mm (x_t3 (List.mem_of_getElem? (i := 156) rfl)) rfl
set_option maxRecDepth 100000 in
theorem mi_1_setSort : (Cond.instanceMethod yX1_setSort) ∈ x_big := x_mm (x_t3 (List.mem_of_getElem? (i := 157) rfl)) rfl
set_option maxRecDepth 100000 in
theorem mv_1_setSort : (Cond.selects RX1 yX1_setSort yX1_setSort) ∈ x_big := x_mm (x_t3 (List.mem_of_getElem? (i := 158) rfl)) rfl
set_option maxRecDepth 100000 in
theorem mc_1_setSort : (Cond.code yX1_setSort cX1_setSort 3 none) ∈ x_big := x_mm (x_t3 (List.mem_of_getElem? (i := 159) rfl)) rfl
set_option maxRecDepth 100000 in
theorem ml_L_117 : (Cond.methodLink RL 117 yX6_wet) ∈ x_big := x_mm (x_t3 (List.mem_of_getElem? (i := 160) rfl)) rfl
set_option maxRecDepth 100000 in
theorem mi_6_wet : (Cond.instanceMethod yX6_wet) ∈ x_big := x_mm (x_t3 (List.mem_of_getElem? (i := 161) rfl)) rfl
set_option maxRecDepth 100000 in
theorem mv_6_wet : (Cond.selects RX6 yX6_wet yX6_wet) ∈ x_big := x_mm (x_t3 (List.mem_of_getElem? (i := 162) rfl)) rfl
set_option maxRecDepth 100000 in
theorem mc_6_wet : (Cond.code yX6_wet cX6_wet 2 (some .int)) ∈ x_big := x_mm (x_t3 (List.mem_of_getElem? (i := 163) rfl)) rfl
set_option maxRecDepth 100000 in
theorem ml_6_251 : (Cond.methodLink RX6 251 yX6_firstsThatFit) ∈ x_big := x_mm (x_t3 (List.mem_of_getElem? (i := 164) rfl)) rfl
set_option maxRecDepth 100000 in
theorem mi_6_firstsThatFit : (Cond.instanceMethod yX6_firstsThatFit) ∈ x_big := x_mm (x_t3 (List.mem_of_getElem? (i := 166) rfl)) rfl
set_option maxRecDepth 100000 in
theorem mc_6_firstsThatFit : (Cond.code yX6_firstsThatFit cX6_firstsThatFit 5 (some .int)) ∈ x_big := x_mm (x_t3 (List.mem_of_getElem? (i := 167) rfl)) rfl
set_option maxRecDepth 100000 in
theorem ml_L_121 : (Cond.methodLink RL 121 yX6_ask) ∈ x_big := x_mm (x_t3 (List.mem_of_getElem? (i := 168) rfl)) rfl
set_option maxRecDepth 100000 in
theorem mi_6_ask : (Cond.instanceMethod yX6_ask) ∈ x_big := x_mm (x_t3 (List.mem_of_getElem? (i := 169) rfl)) rfl
set_option maxRecDepth 100000 in
theorem mv_6_ask : (Cond.selects RX6 yX6_ask yX6_ask) ∈ x_big := x_mm (x_t3 (List.mem_of_getElem? (i := 170) rfl)) rfl
set_option maxRecDepth 100000 in
theorem mc_6_ask : (Cond.code yX6_ask cX6_ask 2 (some .int)) ∈ x_big := x_mm (x_t3 (List.mem_of_getElem? (i := 171) rfl)) rfl
set_option maxRecDepth 100000 in
theorem ml_6_254 : (Cond.methodLink RX6 254 yX6_hourToAsk) ∈ x_big := x_mm (x_t3 (List.mem_of_getElem? (i := 172) rfl)) rfl
set_option maxRecDepth 100000 in
theorem mi_6_hourToAsk : (Cond.instanceMethod yX6_hourToAsk) ∈ x_big := x_mm (x_t3 (List.mem_of_getElem? (i := 174) rfl)) rfl
set_option maxRecDepth 100000 in
theorem mc_6_hourToAsk : (Cond.code yX6_hourToAsk cX6_hourToAsk 3 (some .int)) ∈ x_big := x_mm (x_t3 (List.mem_of_getElem? (i := 175) rfl)) rfl
set_option maxRecDepth 100000 in
theorem ml_6_364 : (Cond.methodLink RX6 364 yX6_mostAlike) ∈ x_big := x_mm (x_t3 (List.mem_of_getElem? (i := 176) rfl)) rfl
set_option maxRecDepth 100000 in
theorem mi_6_mostAlike : (Cond.instanceMethod yX6_mostAlike) ∈ x_big := x_mm (x_t3 (List.mem_of_getElem? (i := 178) rfl)) rfl
set_option maxRecDepth 100000 in
theorem mc_6_mostAlike : (Cond.code yX6_mostAlike cX6_mostAlike 6 (some .int)) ∈ x_big := x_mm (x_t3 (List.mem_of_getElem? (i := 179) rfl)) rfl
set_option maxRecDepth 100000 in
theorem ml_6_367 : (Cond.methodLink RX6 367 Lib.Math.max.name) ∈ x_big := x_mm (x_t3 (List.mem_of_getElem? (i := 180) rfl)) rfl
set_option maxRecDepth 100000 in
theorem ml_L_125 : (Cond.methodLink RL 125 yX6_chance) ∈ x_big := x_mm (x_t3 (List.mem_of_getElem? (i := 181) rfl)) rfl
set_option maxRecDepth 100000 in
theorem mi_6_chance : (Cond.instanceMethod yX6_chance) ∈ x_big := x_mm (x_t3 (List.mem_of_getElem? (i := 182) rfl)) rfl
set_option maxRecDepth 100000 in
theorem mv_6_chance : (Cond.selects RX6 yX6_chance yX6_chance) ∈ x_big := x_mm (x_t3 (List.mem_of_getElem? (i := 183) rfl)) rfl
set_option maxRecDepth 100000 in
theorem mc_6_chance : (Cond.code yX6_chance cX6_chance 9 (some .long)) ∈ x_big := x_mm (x_t3 (List.mem_of_getElem? (i := 184) rfl)) rfl
set_option maxRecDepth 100000 in
theorem mkl_6_257 : (Cond.constantLong RX6 257 (-9223372036854775806)) ∈ x_big := x_mm (x_t3 (List.mem_of_getElem? (i := 185) rfl)) rfl
set_option maxRecDepth 100000 in
theorem ml_6_259 : (Cond.methodLink RX6 259 yX6_waysCarried) ∈ x_big := x_mm (x_t3 (List.mem_of_getElem? (i := 186) rfl)) rfl
set_option maxRecDepth 100000 in
theorem mi_6_waysCarried : (Cond.instanceMethod yX6_waysCarried) ∈ x_big := x_mm (x_t3 (List.mem_of_getElem? (i := 188) rfl)) rfl
set_option maxRecDepth 100000 in
theorem mc_6_waysCarried : (Cond.code yX6_waysCarried cX6_waysCarried 8 (some .long)) ∈ x_big := x_mm (x_t3 (List.mem_of_getElem? (i := 189) rfl)) rfl
set_option maxRecDepth 100000 in
theorem ml_6_370 : (Cond.methodLink RX6 370 yX6_waysOf) ∈ x_big := x_mm (x_t3 (List.mem_of_getElem? (i := 190) rfl)) rfl
set_option maxRecDepth 100000 in
theorem mi_6_waysOf : (Cond.instanceMethod yX6_waysOf) ∈ x_big := x_mm (x_t3 (List.mem_of_getElem? (i := 192) rfl)) rfl
set_option maxRecDepth 100000 in
theorem mc_6_waysOf : (Cond.code yX6_waysOf cX6_waysOf 6 (some .long)) ∈ x_big := x_mm (x_t3 (List.mem_of_getElem? (i := 193) rfl)) rfl
set_option maxRecDepth 100000 in
theorem ml_L_130 : (Cond.methodLink RL 130 yX6_ages) ∈ x_big := x_mm (x_t3 (List.mem_of_getElem? (i := 194) rfl)) rfl
set_option maxRecDepth 100000 in
theorem mi_6_ages : (Cond.instanceMethod yX6_ages) ∈ x_big := x_mm (x_t3 (List.mem_of_getElem? (i := 195) rfl)) rfl
set_option maxRecDepth 100000 in
theorem mv_6_ages : (Cond.selects RX6 yX6_ages yX6_ages) ∈ x_big := x_mm (x_t3 (List.mem_of_getElem? (i := 196) rfl)) rfl
set_option maxRecDepth 100000 in
theorem mc_6_ages : (Cond.code yX6_ages cX6_ages 4 (some .int)) ∈ x_big := x_mm (x_t3 (List.mem_of_getElem? (i := 197) rfl)) rfl
set_option maxRecDepth 100000 in
theorem ml_6_263 : (Cond.methodLink RX6 263 yX6_sitAges) ∈ x_big := x_mm (x_t3 (List.mem_of_getElem? (i := 198) rfl)) rfl
set_option maxRecDepth 100000 in
theorem mi_6_sitAges : (Cond.instanceMethod yX6_sitAges) ∈ x_big := x_mm (x_t3 (List.mem_of_getElem? (i := 200) rfl)) rfl
set_option maxRecDepth 100000 in
theorem mc_6_sitAges : (Cond.code yX6_sitAges cX6_sitAges 7 none) ∈ x_big := x_mm (x_t3 (List.mem_of_getElem? (i := 201) rfl)) rfl
set_option maxRecDepth 100000 in
theorem ml_6_373 : (Cond.methodLink RX6 373 yX6_nextSeed) ∈ x_big := x_mm (x_t3 (List.mem_of_getElem? (i := 202) rfl)) rfl
set_option maxRecDepth 100000 in
theorem ms_6_nextSeed : (Cond.static yX6_nextSeed) ∈ x_big := x_mm (x_t3 (List.mem_of_getElem? (i := 203) rfl)) rfl
set_option maxRecDepth 100000 in
theorem mc_6_nextSeed : (Cond.code yX6_nextSeed cX6_nextSeed 1 (some .int)) ∈ x_big := x_mm (x_t3 (List.mem_of_getElem? (i := 204) rfl)) rfl
set_option maxRecDepth 100000 in
theorem mk_6_379 : (Cond.constant RX6 379 (1103515245)) ∈ x_big := x_mm (x_t3 (List.mem_of_getElem? (i := 205) rfl)) rfl
set_option maxRecDepth 100000 in
theorem ml_6_376 : (Cond.methodLink RX6 376 yX6_lot) ∈ x_big := x_mm (x_t3 (List.mem_of_getElem? (i := 206) rfl)) rfl
set_option maxRecDepth 100000 in
theorem ms_6_lot : (Cond.static yX6_lot) ∈ x_big := x_mm (x_t3 (List.mem_of_getElem? (i := 207) rfl)) rfl
set_option maxRecDepth 100000 in
theorem mc_6_lot : (Cond.code yX6_lot cX6_lot 2 (some .int)) ∈ x_big := x_mm (x_t3 (List.mem_of_getElem? (i := 208) rfl)) rfl
set_option maxRecDepth 100000 in
theorem ml_L_134 : (Cond.methodLink RL 134 yX6_sheet) ∈ x_big := x_mm (x_t3 (List.mem_of_getElem? (i := 209) rfl)) rfl
set_option maxRecDepth 100000 in
theorem mi_6_sheet : (Cond.instanceMethod yX6_sheet) ∈ x_big := x_mm (x_t3 (List.mem_of_getElem? (i := 210) rfl)) rfl
set_option maxRecDepth 100000 in
theorem mv_6_sheet : (Cond.selects RX6 yX6_sheet yX6_sheet) ∈ x_big := x_mm (x_t3 (List.mem_of_getElem? (i := 211) rfl)) rfl
set_option maxRecDepth 100000 in
theorem mc_6_sheet : (Cond.code yX6_sheet cX6_sheet 5 (some .int)) ∈ x_big := x_mm (x_t3 (List.mem_of_getElem? (i := 212) rfl)) rfl
set_option maxRecDepth 100000 in
theorem ml_6_266 : (Cond.methodLink RX6 266 yX6_isForm) ∈ x_big := x_mm (x_t3 (List.mem_of_getElem? (i := 213) rfl)) rfl
set_option maxRecDepth 100000 in
theorem ms_6_isForm : (Cond.static yX6_isForm) ∈ x_big := x_mm (x_t3 (List.mem_of_getElem? (i := 214) rfl)) rfl
set_option maxRecDepth 100000 in
theorem mc_6_isForm : (Cond.code yX6_isForm cX6_isForm 1 (some .boolean)) ∈ x_big := x_mm (x_t3 (List.mem_of_getElem? (i := 215) rfl)) rfl
set_option maxRecDepth 100000 in
theorem ml_6_269 : (Cond.methodLink RX6 269 yX3_renew) ∈ x_big := x_mm (x_t3 (List.mem_of_getElem? (i := 216) rfl)) rfl
set_option maxRecDepth 100000 in
theorem mi_3_renew : (Cond.instanceMethod yX3_renew) ∈ x_big := x_mm (x_t3 (List.mem_of_getElem? (i := 217) rfl)) rfl
set_option maxRecDepth 100000 in
theorem mv_3_renew : (Cond.selects RX3 yX3_renew yX3_renew) ∈ x_big := x_mm (x_t3 (List.mem_of_getElem? (i := 218) rfl)) rfl
set_option maxRecDepth 100000 in
theorem mc_3_renew : (Cond.code yX3_renew cX3_renew 4 none) ∈ x_big := x_mm (x_t3 (List.mem_of_getElem? (i := 219) rfl)) rfl
set_option maxRecDepth 100000 in
theorem ml_3_19 : (Cond.methodLink RX3 19 Lib.Math.min.name) ∈ x_big := x_mm (x_t3 (List.mem_of_getElem? (i := 220) rfl)) rfl
set_option maxRecDepth 100000 in
theorem ml_3_25 : (Cond.methodLink RX3 25 Lib.Math.max.name) ∈ x_big := x_mm (x_t3 (List.mem_of_getElem? (i := 221) rfl)) rfl
set_option maxRecDepth 100000 in
theorem ml_L_138 : (Cond.methodLink RL 138 yX6_lose) ∈ x_big := x_mm (x_t3 (List.mem_of_getElem? (i := 222) rfl)) rfl
set_option maxRecDepth 100000 in
theorem mi_6_lose : (Cond.instanceMethod yX6_lose) ∈ x_big := x_mm (x_t3 (List.mem_of_getElem? (i := 223) rfl)) rfl
set_option maxRecDepth 100000 in
theorem mv_6_lose : (Cond.selects RX6 yX6_lose yX6_lose) ∈ x_big := x_mm (x_t3 (List.mem_of_getElem? (i := 224) rfl)) rfl
set_option maxRecDepth 100000 in
theorem mc_6_lose : (Cond.code yX6_lose cX6_lose 4 (some .int)) ∈ x_big := x_mm (x_t3 (List.mem_of_getElem? (i := 225) rfl)) rfl
set_option maxRecDepth 100000 in
theorem ml_L_142 : (Cond.methodLink RL 142 yX6_put) ∈ x_big := x_mm (x_t3 (List.mem_of_getElem? (i := 226) rfl)) rfl
set_option maxRecDepth 100000 in
theorem mi_6_put : (Cond.instanceMethod yX6_put) ∈ x_big := x_mm (x_t3 (List.mem_of_getElem? (i := 227) rfl)) rfl
set_option maxRecDepth 100000 in
theorem mv_6_put : (Cond.selects RX6 yX6_put yX6_put) ∈ x_big := x_mm (x_t3 (List.mem_of_getElem? (i := 228) rfl)) rfl
set_option maxRecDepth 100000 in
theorem mc_6_put : (Cond.code yX6_put cX6_put 7 (some .int)) ∈ x_big := x_mm (x_t3 (List.mem_of_getElem? (i := 229) rfl)) rfl
set_option maxRecDepth 100000 in
theorem ml_6_272 : (Cond.methodLink RX6 272 yX6_itemRefusal) ∈ x_big := x_mm (x_t3 (List.mem_of_getElem? (i := 230) rfl)) rfl
set_option maxRecDepth 100000 in
theorem mi_6_itemRefusal : (Cond.instanceMethod yX6_itemRefusal) ∈ x_big := x_mm (x_t3 (List.mem_of_getElem? (i := 232) rfl)) rfl
set_option maxRecDepth 100000 in
theorem mc_6_itemRefusal : (Cond.code yX6_itemRefusal cX6_itemRefusal 4 (some .int)) ∈ x_big := x_mm (x_t3 (List.mem_of_getElem? (i := 233) rfl)) rfl
set_option maxRecDepth 100000 in
theorem ml_6_380 : (Cond.methodLink RX6 380 yX3_hasItem) ∈ x_big := x_mm (x_t3 (List.mem_of_getElem? (i := 234) rfl)) rfl
set_option maxRecDepth 100000 in
theorem ml_6_276 : (Cond.methodLink RX6 276 yX3_setItem) ∈ x_big := x_mm (x_t3 (List.mem_of_getElem? (i := 235) rfl)) rfl
set_option maxRecDepth 100000 in
theorem mi_3_setItem : (Cond.instanceMethod yX3_setItem) ∈ x_big := x_mm (x_t3 (List.mem_of_getElem? (i := 236) rfl)) rfl
set_option maxRecDepth 100000 in
theorem mv_3_setItem : (Cond.selects RX3 yX3_setItem yX3_setItem) ∈ x_big := x_mm (x_t3 (List.mem_of_getElem? (i := 237) rfl)) rfl
set_option maxRecDepth 100000 in
theorem mc_3_setItem : (Cond.code yX3_setItem cX3_setItem 3 none) ∈ x_big := x_mm (x_t3 (List.mem_of_getElem? (i := 238) rfl)) rfl
set_option maxRecDepth 100000 in
theorem ml_L_147 : (Cond.methodLink RL 147 yX6_get) ∈ x_big := x_mm (x_t3 (List.mem_of_getElem? (i := 239) rfl)) rfl
set_option maxRecDepth 100000 in
theorem mi_6_get : (Cond.instanceMethod yX6_get) ∈ x_big := x_mm (x_t4 (List.mem_of_getElem? (i := 0) rfl)) rfl
set_option maxRecDepth 100000 in
theorem mv_6_get : (Cond.selects RX6 yX6_get yX6_get) ∈ x_big := x_mm (x_t4 (List.mem_of_getElem? (i := 1) rfl)) rfl
set_option maxRecDepth 100000 in
theorem mc_6_get : (Cond.code yX6_get cX6_get 5 (some .int)) ∈ x_big := x_mm (x_t4 (List.mem_of_getElem? (i := 2) rfl)) rfl
set_option maxRecDepth 100000 in
theorem mk_6_279 : (Cond.constant RX6 279 (-2147483648)) ∈ x_big := x_mm (x_t4 (List.mem_of_getElem? (i := 3) rfl)) rfl
set_option maxRecDepth 100000 in
theorem ml_L_151 : (Cond.methodLink RL 151 yX6_copy) ∈ x_big := x_mm (x_t4 (List.mem_of_getElem? (i := 4) rfl)) rfl
set_option maxRecDepth 100000 in
theorem mi_6_copy : (Cond.instanceMethod yX6_copy) ∈ x_big := x_mm (x_t4 (List.mem_of_getElem? (i := 5) rfl)) rfl
set_option maxRecDepth 100000 in
theorem mv_6_copy : (Cond.selects RX6 yX6_copy yX6_copy) ∈ x_big := x_mm (x_t4 (List.mem_of_getElem? (i := 6) rfl)) rfl
set_option maxRecDepth 100000 in
theorem mc_6_copy : (Cond.code yX6_copy cX6_copy 8 (some .int)) ∈ x_big := x_mm (x_t4 (List.mem_of_getElem? (i := 7) rfl)) rfl
set_option maxRecDepth 100000 in
theorem ml_6_283 : (Cond.methodLink RX6 283 yX3_hasRun) ∈ x_big := x_mm (x_t4 (List.mem_of_getElem? (i := 8) rfl)) rfl
set_option maxRecDepth 100000 in
theorem mi_3_hasRun : (Cond.instanceMethod yX3_hasRun) ∈ x_big := x_mm (x_t4 (List.mem_of_getElem? (i := 9) rfl)) rfl
set_option maxRecDepth 100000 in
theorem mv_3_hasRun : (Cond.selects RX3 yX3_hasRun yX3_hasRun) ∈ x_big := x_mm (x_t4 (List.mem_of_getElem? (i := 10) rfl)) rfl
set_option maxRecDepth 100000 in
theorem mc_3_hasRun : (Cond.code yX3_hasRun cX3_hasRun 3 (some .boolean)) ∈ x_big := x_mm (x_t4 (List.mem_of_getElem? (i := 11) rfl)) rfl
set_option maxRecDepth 100000 in
theorem ml_6_287 : (Cond.methodLink RX6 287 yX3_takeRun) ∈ x_big := x_mm (x_t4 (List.mem_of_getElem? (i := 12) rfl)) rfl
set_option maxRecDepth 100000 in
theorem mi_3_takeRun : (Cond.instanceMethod yX3_takeRun) ∈ x_big := x_mm (x_t4 (List.mem_of_getElem? (i := 13) rfl)) rfl
set_option maxRecDepth 100000 in
theorem mv_3_takeRun : (Cond.selects RX3 yX3_takeRun yX3_takeRun) ∈ x_big := x_mm (x_t4 (List.mem_of_getElem? (i := 14) rfl)) rfl
set_option maxRecDepth 100000 in
theorem mc_3_takeRun : (Cond.code yX3_takeRun cX3_takeRun 5 none) ∈ x_big := x_mm (x_t4 (List.mem_of_getElem? (i := 15) rfl)) rfl
set_option maxRecDepth 100000 in
theorem ml_3_35 : (Cond.methodLink RX3 35 yX3_hasRun) ∈ x_big := x_mm (x_t4 (List.mem_of_getElem? (i := 16) rfl)) rfl
set_option maxRecDepth 100000 in
theorem ml_3_39 : (Cond.methodLink RX3 39 arraycopyName) ∈ x_big := x_mm (x_t4 (List.mem_of_getElem? (i := 17) rfl)) rfl
set_option maxRecDepth 100000 in
theorem ms_arraycopy : (Cond.static arraycopyName) ∈ x_big := x_mm (x_t4 (List.mem_of_getElem? (i := 18) rfl)) rfl
set_option maxRecDepth 100000 in
theorem ml_L_156 : (Cond.methodLink RL 156 yX6_write) ∈ x_big := x_mm (x_t4 (List.mem_of_getElem? (i := 20) rfl)) rfl
set_option maxRecDepth 100000 in
theorem mi_6_write : (Cond.instanceMethod yX6_write) ∈ x_big := x_mm (x_t4 (List.mem_of_getElem? (i := 21) rfl)) rfl
set_option maxRecDepth 100000 in
theorem mv_6_write : (Cond.selects RX6 yX6_write yX6_write) ∈ x_big := x_mm (x_t4 (List.mem_of_getElem? (i := 22) rfl)) rfl
set_option maxRecDepth 100000 in
theorem mc_6_write : (Cond.code yX6_write cX6_write 7 (some .int)) ∈ x_big := x_mm (x_t4 (List.mem_of_getElem? (i := 23) rfl)) rfl
set_option maxRecDepth 100000 in
theorem ml_6_291 : (Cond.methodLink RX6 291 Lib.Math.min.name) ∈ x_big := x_mm (x_t4 (List.mem_of_getElem? (i := 24) rfl)) rfl
set_option maxRecDepth 100000 in
theorem ml_L_160 : (Cond.methodLink RL 160 yX6_count) ∈ x_big := x_mm (x_t4 (List.mem_of_getElem? (i := 25) rfl)) rfl
set_option maxRecDepth 100000 in
theorem mi_6_count : (Cond.instanceMethod yX6_count) ∈ x_big := x_mm (x_t4 (List.mem_of_getElem? (i := 26) rfl)) rfl
set_option maxRecDepth 100000 in
theorem mv_6_count : (Cond.selects RX6 yX6_count yX6_count) ∈ x_big := x_mm (x_t4 (List.mem_of_getElem? (i := 27) rfl)) rfl
set_option maxRecDepth 100000 in
theorem mc_6_count : (Cond.code yX6_count cX6_count 2 (some .int)) ∈ x_big := x_mm (x_t4 (List.mem_of_getElem? (i := 28) rfl)) rfl
set_option maxRecDepth 100000 in
theorem ml_6_296 : (Cond.methodLink RX6 296 yX2_speechesInAll) ∈ x_big := x_mm (x_t4 (List.mem_of_getElem? (i := 29) rfl)) rfl
set_option maxRecDepth 100000 in
theorem mi_2_speechesInAll : (Cond.instanceMethod yX2_speechesInAll) ∈ x_big := x_mm (x_t4 (List.mem_of_getElem? (i := 30) rfl)) rfl
set_option maxRecDepth 100000 in
theorem mv_2_speechesInAll : (Cond.selects RX2 yX2_speechesInAll yX2_speechesInAll) ∈ x_big := x_mm (x_t4 (List.mem_of_getElem? (i := 31) rfl)) rfl
set_option maxRecDepth 100000 in
theorem mc_2_speechesInAll : (Cond.code yX2_speechesInAll cX2_speechesInAll 3 (some .int)) ∈ x_big := x_mm (x_t4 (List.mem_of_getElem? (i := 32) rfl)) rfl
set_option maxRecDepth 100000 in
theorem ml_6_299 : (Cond.methodLink RX6 299 yX2_ayesInAll) ∈ x_big := x_mm (x_t4 (List.mem_of_getElem? (i := 33) rfl)) rfl
set_option maxRecDepth 100000 in
theorem mi_2_ayesInAll : (Cond.instanceMethod yX2_ayesInAll) ∈ x_big := x_mm (x_t4 (List.mem_of_getElem? (i := 34) rfl)) rfl
set_option maxRecDepth 100000 in
theorem mv_2_ayesInAll : (Cond.selects RX2 yX2_ayesInAll yX2_ayesInAll) ∈ x_big := x_mm (x_t4 (List.mem_of_getElem? (i := 35) rfl)) rfl
set_option maxRecDepth 100000 in
theorem mc_2_ayesInAll : (Cond.code yX2_ayesInAll cX2_ayesInAll 3 (some .int)) ∈ x_big := x_mm (x_t4 (List.mem_of_getElem? (i := 36) rfl)) rfl
set_option maxRecDepth 100000 in
theorem ml_L_164 : (Cond.methodLink RL 164 yX6_digest) ∈ x_big := x_mm (x_t4 (List.mem_of_getElem? (i := 37) rfl)) rfl
set_option maxRecDepth 100000 in
theorem mi_6_digest : (Cond.instanceMethod yX6_digest) ∈ x_big := x_mm (x_t4 (List.mem_of_getElem? (i := 38) rfl)) rfl
set_option maxRecDepth 100000 in
theorem mv_6_digest : (Cond.selects RX6 yX6_digest yX6_digest) ∈ x_big := x_mm (x_t4 (List.mem_of_getElem? (i := 39) rfl)) rfl
set_option maxRecDepth 100000 in
theorem mc_6_digest : (Cond.code yX6_digest cX6_digest 4 (some .long)) ∈ x_big := x_mm (x_t4 (List.mem_of_getElem? (i := 40) rfl)) rfl
set_option maxRecDepth 100000 in
theorem mkl_6_305 : (Cond.constantLong RX6 305 (17)) ∈ x_big := x_mm (x_t4 (List.mem_of_getElem? (i := 41) rfl)) rfl
set_option maxRecDepth 100000 in
theorem mkl_6_307 : (Cond.constantLong RX6 307 (31)) ∈ x_big := x_mm (x_t4 (List.mem_of_getElem? (i := 42) rfl)) rfl
set_option maxRecDepth 100000 in
theorem ml_6_309 : (Cond.methodLink RX6 309 yX6_count) ∈ x_big := x_mm (x_t4 (List.mem_of_getElem? (i := 43) rfl)) rfl
set_option maxRecDepth 100000 in
theorem ml_6_312 : (Cond.methodLink RX6 312 yX6_fault) ∈ x_big := x_mm (x_t4 (List.mem_of_getElem? (i := 44) rfl)) rfl
set_option maxRecDepth 100000 in
theorem ml_6_315 : (Cond.methodLink RX6 315 yX6_digestOfPlaces) ∈ x_big := x_mm (x_t4 (List.mem_of_getElem? (i := 45) rfl)) rfl
set_option maxRecDepth 100000 in
theorem mi_6_digestOfPlaces : (Cond.instanceMethod yX6_digestOfPlaces) ∈ x_big := x_mm (x_t4 (List.mem_of_getElem? (i := 47) rfl)) rfl
set_option maxRecDepth 100000 in
theorem mc_6_digestOfPlaces : (Cond.code yX6_digestOfPlaces cX6_digestOfPlaces 7 (some .long)) ∈ x_big := x_mm (x_t4 (List.mem_of_getElem? (i := 48) rfl)) rfl
set_option maxRecDepth 100000 in
theorem ml_6_383 : (Cond.methodLink RX6 383 yX6_stone) ∈ x_big := x_mm (x_t4 (List.mem_of_getElem? (i := 49) rfl)) rfl
set_option maxRecDepth 100000 in
theorem ml_6_386 : (Cond.methodLink RX6 386 yX6_damp) ∈ x_big := x_mm (x_t4 (List.mem_of_getElem? (i := 50) rfl)) rfl
set_option maxRecDepth 100000 in
theorem ml_6_319 : (Cond.methodLink RX6 319 yX6_digestOfMembers) ∈ x_big := x_mm (x_t4 (List.mem_of_getElem? (i := 51) rfl)) rfl
set_option maxRecDepth 100000 in
theorem mi_6_digestOfMembers : (Cond.instanceMethod yX6_digestOfMembers) ∈ x_big := x_mm (x_t4 (List.mem_of_getElem? (i := 53) rfl)) rfl
set_option maxRecDepth 100000 in
theorem mc_6_digestOfMembers : (Cond.code yX6_digestOfMembers cX6_digestOfMembers 9 (some .long)) ∈ x_big := x_mm (x_t4 (List.mem_of_getElem? (i := 54) rfl)) rfl
set_option maxRecDepth 100000 in
theorem ml_6_389 : (Cond.methodLink RX6 389 yX6_member) ∈ x_big := x_mm (x_t4 (List.mem_of_getElem? (i := 55) rfl)) rfl
set_option maxRecDepth 100000 in
theorem mf_6_392 : (Cond.fieldLink RX6 392 "WoodliceSenate" "DIGEST_HOURS" "[I") ∈ x_big := x_mm (x_t4 (List.mem_of_getElem? (i := 56) rfl)) rfl
set_option maxRecDepth 100000 in
theorem ml_6_322 : (Cond.methodLink RX6 322 yX6_digestOfHours) ∈ x_big := x_mm (x_t4 (List.mem_of_getElem? (i := 58) rfl)) rfl
set_option maxRecDepth 100000 in
theorem mi_6_digestOfHours : (Cond.instanceMethod yX6_digestOfHours) ∈ x_big := x_mm (x_t4 (List.mem_of_getElem? (i := 60) rfl)) rfl
set_option maxRecDepth 100000 in
theorem mc_6_digestOfHours : (Cond.code yX6_digestOfHours cX6_digestOfHours 7 (some .long)) ∈ x_big := x_mm (x_t4 (List.mem_of_getElem? (i := 61) rfl)) rfl
set_option maxRecDepth 100000 in
theorem ml_6_395 : (Cond.methodLink RX6 395 yX6_house) ∈ x_big := x_mm (x_t4 (List.mem_of_getElem? (i := 62) rfl)) rfl
set_option maxRecDepth 100000 in
theorem ml_6_398 : (Cond.methodLink RX6 398 yX6_governments) ∈ x_big := x_mm (x_t4 (List.mem_of_getElem? (i := 63) rfl)) rfl
set_option maxRecDepth 100000 in
theorem ml_6_401 : (Cond.methodLink RX6 401 yX6_carried) ∈ x_big := x_mm (x_t4 (List.mem_of_getElem? (i := 64) rfl)) rfl
set_option maxRecDepth 100000 in
theorem ml_6_404 : (Cond.methodLink RX6 404 yX6_crowd) ∈ x_big := x_mm (x_t4 (List.mem_of_getElem? (i := 65) rfl)) rfl
set_option maxRecDepth 100000 in
theorem ml_6_407 : (Cond.methodLink RX6 407 yX6_orator) ∈ x_big := x_mm (x_t4 (List.mem_of_getElem? (i := 66) rfl)) rfl
set_option maxRecDepth 100000 in
theorem ml_6_410 : (Cond.methodLink RX6 410 yX6_still) ∈ x_big := x_mm (x_t4 (List.mem_of_getElem? (i := 67) rfl)) rfl
set_option maxRecDepth 100000 in
theorem ml_6_325 : (Cond.methodLink RX6 325 yX6_digestOfPlans) ∈ x_big := x_mm (x_t4 (List.mem_of_getElem? (i := 68) rfl)) rfl
set_option maxRecDepth 100000 in
theorem mi_6_digestOfPlans : (Cond.instanceMethod yX6_digestOfPlans) ∈ x_big := x_mm (x_t4 (List.mem_of_getElem? (i := 70) rfl)) rfl
set_option maxRecDepth 100000 in
theorem mc_6_digestOfPlans : (Cond.code yX6_digestOfPlans cX6_digestOfPlans 5 (some .long)) ∈ x_big := x_mm (x_t4 (List.mem_of_getElem? (i := 71) rfl)) rfl
set_option maxRecDepth 100000 in
theorem ml_6_413 : (Cond.methodLink RX6 413 yX6_never) ∈ x_big := x_mm (x_t4 (List.mem_of_getElem? (i := 72) rfl)) rfl
set_option maxRecDepth 100000 in
theorem ml_6_416 : (Cond.methodLink RX6 416 yX6_chance) ∈ x_big := x_mm (x_t4 (List.mem_of_getElem? (i := 73) rfl)) rfl
set_option maxRecDepth 100000 in
theorem mcl_L_10 : (Cond.classLink RL 10 RX7) ∈ x_big := x_mm (x_t4 (List.mem_of_getElem? (i := 74) rfl)) rfl
set_option maxRecDepth 100000 in
theorem mna_7 : (Cond.instantiable RX7 42) ∈ x_big := x_mm (x_t4 (List.mem_of_getElem? (i := 75) rfl)) rfl
set_option maxRecDepth 100000 in
theorem ml_L_12 : (Cond.methodLink RL 12 yX7_init) ∈ x_big := x_mm (x_t4 (List.mem_of_getElem? (i := 76) rfl)) rfl
set_option maxRecDepth 100000 in
theorem mi_7_init : (Cond.instanceMethod yX7_init) ∈ x_big := x_mm (x_t4 (List.mem_of_getElem? (i := 77) rfl)) rfl
set_option maxRecDepth 100000 in
theorem mc_7_init : (Cond.code yX7_init cX7_init 1 none) ∈ x_big := x_mm (x_t4 (List.mem_of_getElem? (i := 78) rfl)) rfl
set_option maxRecDepth 100000 in
theorem ml_7_1 : (Cond.methodLink RX7 1 objectInit) ∈ x_big := x_mm (x_t4 (List.mem_of_getElem? (i := 79) rfl)) rfl
set_option maxRecDepth 100000 in
theorem mf_7_7 : (Cond.fieldLink RX7 7 "WoodliceSenateModel" "typed" "[I") ∈ x_big := x_mm (x_t4 (List.mem_of_getElem? (i := 80) rfl)) rfl
set_option maxRecDepth 100000 in
theorem mf_7_13 : (Cond.fieldLink RX7 13 "WoodliceSenateModel" "texts" "[I") ∈ x_big := x_mm (x_t4 (List.mem_of_getElem? (i := 81) rfl)) rfl
set_option maxRecDepth 100000 in
theorem mf_7_123 : (Cond.fieldLink RX7 123 "WoodliceSenateModel" "figures" "I") ∈ x_big := x_mm (x_t4 (List.mem_of_getElem? (i := 82) rfl)) rfl
set_option maxRecDepth 100000 in
theorem mf_7_16 : (Cond.fieldLink RX7 16 "WoodliceSenateModel" "stoneTold" "[I") ∈ x_big := x_mm (x_t4 (List.mem_of_getElem? (i := 83) rfl)) rfl
set_option maxRecDepth 100000 in
theorem mf_7_134 : (Cond.fieldLink RX7 134 "WoodliceSenateModel" "members" "I") ∈ x_big := x_mm (x_t4 (List.mem_of_getElem? (i := 84) rfl)) rfl
set_option maxRecDepth 100000 in
theorem mf_7_19 : (Cond.fieldLink RX7 19 "WoodliceSenateModel" "sorts" "[I") ∈ x_big := x_mm (x_t4 (List.mem_of_getElem? (i := 85) rfl)) rfl
set_option maxRecDepth 100000 in
theorem mf_7_22 : (Cond.fieldLink RX7 22 "WoodliceSenateModel" "placeTold" "[I") ∈ x_big := x_mm (x_t4 (List.mem_of_getElem? (i := 86) rfl)) rfl
set_option maxRecDepth 100000 in
theorem mf_7_25 : (Cond.fieldLink RX7 25 "WoodliceSenateModel" "upTold" "[I") ∈ x_big := x_mm (x_t4 (List.mem_of_getElem? (i := 87) rfl)) rfl
set_option maxRecDepth 100000 in
theorem mf_7_169 : (Cond.fieldLink RX7 169 "WoodliceSenateModel" "events" "I") ∈ x_big := x_mm (x_t4 (List.mem_of_getElem? (i := 88) rfl)) rfl
set_option maxRecDepth 100000 in
theorem mf_7_28 : (Cond.fieldLink RX7 28 "WoodliceSenateModel" "eventKind" "[I") ∈ x_big := x_mm (x_t4 (List.mem_of_getElem? (i := 89) rfl)) rfl
set_option maxRecDepth 100000 in
theorem mf_7_31 : (Cond.fieldLink RX7 31 "WoodliceSenateModel" "eventHour" "[I") ∈ x_big := x_mm (x_t4 (List.mem_of_getElem? (i := 90) rfl)) rfl
set_option maxRecDepth 100000 in
theorem mf_7_34 : (Cond.fieldLink RX7 34 "WoodliceSenateModel" "eventPlace" "[I") ∈ x_big := x_mm (x_t4 (List.mem_of_getElem? (i := 91) rfl)) rfl
set_option maxRecDepth 100000 in
theorem mf_7_182 : (Cond.fieldLink RX7 182 "WoodliceSenateModel" "eventsNow" "I") ∈ x_big := x_mm (x_t4 (List.mem_of_getElem? (i := 92) rfl)) rfl
set_option maxRecDepth 100000 in
theorem mf_7_37 : (Cond.fieldLink RX7 37 "WoodliceSenateModel" "kindNow" "[I") ∈ x_big := x_mm (x_t4 (List.mem_of_getElem? (i := 93) rfl)) rfl
set_option maxRecDepth 100000 in
theorem mf_7_40 : (Cond.fieldLink RX7 40 "WoodliceSenateModel" "hourNow" "[I") ∈ x_big := x_mm (x_t4 (List.mem_of_getElem? (i := 94) rfl)) rfl
set_option maxRecDepth 100000 in
theorem mf_7_43 : (Cond.fieldLink RX7 43 "WoodliceSenateModel" "placeNow" "[I") ∈ x_big := x_mm (x_t4 (List.mem_of_getElem? (i := 95) rfl)) rfl
set_option maxRecDepth 100000 in
theorem mf_7_185 : (Cond.fieldLink RX7 185 "WoodliceSenateModel" "notEvents" "I") ∈ x_big := x_mm (x_t4 (List.mem_of_getElem? (i := 96) rfl)) rfl
set_option maxRecDepth 100000 in
theorem mf_7_46 : (Cond.fieldLink RX7 46 "WoodliceSenateModel" "damps" "[I") ∈ x_big := x_mm (x_t4 (List.mem_of_getElem? (i := 97) rfl)) rfl
set_option maxRecDepth 100000 in
theorem mf_7_49 : (Cond.fieldLink RX7 49 "WoodliceSenateModel" "at" "[I") ∈ x_big := x_mm (x_t4 (List.mem_of_getElem? (i := 98) rfl)) rfl
set_option maxRecDepth 100000 in
theorem mf_7_52 : (Cond.fieldLink RX7 52 "WoodliceSenateModel" "ups" "[I") ∈ x_big := x_mm (x_t4 (List.mem_of_getElem? (i := 99) rfl)) rfl
set_option maxRecDepth 100000 in
theorem mf_7_55 : (Cond.fieldLink RX7 55 "WoodliceSenateModel" "until" "[I") ∈ x_big := x_mm (x_t4 (List.mem_of_getElem? (i := 100) rfl)) rfl
set_option maxRecDepth 100000 in
theorem mf_7_58 : (Cond.fieldLink RX7 58 "WoodliceSenateModel" "speeches" "[I") ∈ x_big := x_mm (x_t4 (List.mem_of_getElem? (i := 101) rfl)) rfl
set_option maxRecDepth 100000 in
theorem mf_7_205 : (Cond.fieldLink RX7 205 "WoodliceSenateModel" "went" "I") ∈ x_big := x_mm (x_t4 (List.mem_of_getElem? (i := 102) rfl)) rfl
set_option maxRecDepth 100000 in
theorem mf_7_61 : (Cond.fieldLink RX7 61 "WoodliceSenateModel" "dampAt" "[I") ∈ x_big := x_mm (x_t4 (List.mem_of_getElem? (i := 103) rfl)) rfl
set_option maxRecDepth 100000 in
theorem mf_7_64 : (Cond.fieldLink RX7 64 "WoodliceSenateModel" "atAt" "[I") ∈ x_big := x_mm (x_t4 (List.mem_of_getElem? (i := 104) rfl)) rfl
set_option maxRecDepth 100000 in
theorem mf_7_67 : (Cond.fieldLink RX7 67 "WoodliceSenateModel" "upAt" "[I") ∈ x_big := x_mm (x_t4 (List.mem_of_getElem? (i := 105) rfl)) rfl
set_option maxRecDepth 100000 in
theorem mf_7_70 : (Cond.fieldLink RX7 70 "WoodliceSenateModel" "speechAt" "[I") ∈ x_big := x_mm (x_t4 (List.mem_of_getElem? (i := 106) rfl)) rfl
set_option maxRecDepth 100000 in
theorem mf_7_73 : (Cond.fieldLink RX7 73 "WoodliceSenateModel" "rolledAt" "[I") ∈ x_big := x_mm (x_t4 (List.mem_of_getElem? (i := 107) rfl)) rfl
set_option maxRecDepth 100000 in
theorem mf_7_76 : (Cond.fieldLink RX7 76 "WoodliceSenateModel" "ayesAt" "[I") ∈ x_big := x_mm (x_t4 (List.mem_of_getElem? (i := 108) rfl)) rfl
set_option maxRecDepth 100000 in
theorem mf_7_79 : (Cond.fieldLink RX7 79 "WoodliceSenateModel" "noesAt" "[I") ∈ x_big := x_mm (x_t4 (List.mem_of_getElem? (i := 109) rfl)) rfl
set_option maxRecDepth 100000 in
theorem mf_7_82 : (Cond.fieldLink RX7 82 "WoodliceSenateModel" "planRow" "[I") ∈ x_big := x_mm (x_t4 (List.mem_of_getElem? (i := 110) rfl)) rfl
set_option maxRecDepth 100000 in
theorem mf_7_297 : (Cond.fieldLink RX7 297 "WoodliceSenateModel" "seens" "I") ∈ x_big := x_mm (x_t4 (List.mem_of_getElem? (i := 111) rfl)) rfl
set_option maxRecDepth 100000 in
theorem mf_7_85 : (Cond.fieldLink RX7 85 "WoodliceSenateModel" "seenHour" "[I") ∈ x_big := x_mm (x_t4 (List.mem_of_getElem? (i := 112) rfl)) rfl
set_option maxRecDepth 100000 in
theorem mf_7_88 : (Cond.fieldLink RX7 88 "WoodliceSenateModel" "seenWho" "[I") ∈ x_big := x_mm (x_t4 (List.mem_of_getElem? (i := 113) rfl)) rfl
set_option maxRecDepth 100000 in
theorem mf_7_91 : (Cond.fieldLink RX7 91 "WoodliceSenateModel" "seenPlace" "[I") ∈ x_big := x_mm (x_t4 (List.mem_of_getElem? (i := 114) rfl)) rfl
set_option maxRecDepth 100000 in
theorem mf_7_94 : (Cond.fieldLink RX7 94 "WoodliceSenateModel" "dampBy" "[I") ∈ x_big := x_mm (x_t4 (List.mem_of_getElem? (i := 115) rfl)) rfl
set_option maxRecDepth 100000 in
theorem mf_7_97 : (Cond.fieldLink RX7 97 "WoodliceSenateModel" "isThere" "[Z") ∈ x_big := x_mm (x_t4 (List.mem_of_getElem? (i := 116) rfl)) rfl
set_option maxRecDepth 100000 in
theorem mf_7_101 : (Cond.fieldLink RX7 101 "WoodliceSenateModel" "forms" "[I") ∈ x_big := x_mm (x_t4 (List.mem_of_getElem? (i := 117) rfl)) rfl
set_option maxRecDepth 100000 in
theorem mf_7_104 : (Cond.fieldLink RX7 104 "WoodliceSenateModel" "sizes" "[I") ∈ x_big := x_mm (x_t4 (List.mem_of_getElem? (i := 118) rfl)) rfl
set_option maxRecDepth 100000 in
theorem mf_7_107 : (Cond.fieldLink RX7 107 "WoodliceSenateModel" "items" "[I") ∈ x_big := x_mm (x_t4 (List.mem_of_getElem? (i := 119) rfl)) rfl
set_option maxRecDepth 100000 in
theorem mf_7_110 : (Cond.fieldLink RX7 110 "WoodliceSenateModel" "moved" "[I") ∈ x_big := x_mm (x_t4 (List.mem_of_getElem? (i := 120) rfl)) rfl
set_option maxRecDepth 100000 in
theorem mf_7_332 : (Cond.fieldLink RX7 332 "WoodliceSenateModel" "finding" "I") ∈ x_big := x_mm (x_t4 (List.mem_of_getElem? (i := 121) rfl)) rfl
set_option maxRecDepth 100000 in
theorem ml_L_17 : (Cond.methodLink RL 17 yX7_type) ∈ x_big := x_mm (x_t4 (List.mem_of_getElem? (i := 207) rfl)) rfl
set_option maxRecDepth 100000 in
theorem mi_7_type : (Cond.instanceMethod yX7_type) ∈ x_big := x_mm (x_t4 (List.mem_of_getElem? (i := 208) rfl)) rfl
set_option maxRecDepth 100000 in
theorem mv_7_type : (Cond.selects RX7 yX7_type yX7_type) ∈ x_big := x_mm (x_t4 (List.mem_of_getElem? (i := 209) rfl)) rfl
set_option maxRecDepth 100000 in
theorem mc_7_type : (Cond.code yX7_type cX7_type 3 (some .int)) ∈ x_big := x_mm (x_t4 (List.mem_of_getElem? (i := 210) rfl)) rfl
set_option maxRecDepth 100000 in
theorem ml_7_119 : (Cond.methodLink RX7 119 yX7_isText) ∈ x_big := x_mm (x_t4 (List.mem_of_getElem? (i := 211) rfl)) rfl
set_option maxRecDepth 100000 in
theorem ms_7_isText : (Cond.static yX7_isText) ∈ x_big := x_mm (x_t4 (List.mem_of_getElem? (i := 212) rfl)) rfl
set_option maxRecDepth 100000 in
theorem mc_7_isText : (Cond.code yX7_isText cX7_isText 1 (some .boolean)) ∈ x_big := x_mm (x_t4 (List.mem_of_getElem? (i := 213) rfl)) rfl
set_option maxRecDepth 100000 in
theorem ml_7_115 : (Cond.methodLink RX7 115 yX7_in) ∈ x_big := x_mm (x_t4 (List.mem_of_getElem? (i := 214) rfl)) rfl
set_option maxRecDepth 100000 in
theorem ms_7_in : (Cond.static yX7_in) ∈ x_big := x_mm (x_t4 (List.mem_of_getElem? (i := 215) rfl)) rfl
set_option maxRecDepth 100000 in
theorem mc_7_in : (Cond.code yX7_in cX7_in 3 (some .boolean)) ∈ x_big := x_mm (x_t4 (List.mem_of_getElem? (i := 216) rfl)) rfl
set_option maxRecDepth 100000 in
theorem ml_L_22 : (Cond.methodLink RL 22 yX7_wipe) ∈ x_big := x_mm (x_t4 (List.mem_of_getElem? (i := 217) rfl)) rfl
set_option maxRecDepth 100000 in
theorem mi_7_wipe : (Cond.instanceMethod yX7_wipe) ∈ x_big := x_mm (x_t4 (List.mem_of_getElem? (i := 218) rfl)) rfl
set_option maxRecDepth 100000 in
theorem mv_7_wipe : (Cond.selects RX7 yX7_wipe yX7_wipe) ∈ x_big := x_mm (x_t4 (List.mem_of_getElem? (i := 219) rfl)) rfl
set_option maxRecDepth 100000 in
theorem mc_7_wipe : (Cond.code yX7_wipe cX7_wipe 3 (some .int)) ∈ x_big := x_mm (x_t4 (List.mem_of_getElem? (i := 220) rfl)) rfl
set_option maxRecDepth 100000 in
theorem ml_L_26 : (Cond.methodLink RL 26 yX7_undo) ∈ x_big := x_mm (x_t4 (List.mem_of_getElem? (i := 221) rfl)) rfl
set_option maxRecDepth 100000 in
theorem mi_7_undo : (Cond.instanceMethod yX7_undo) ∈ x_big := x_mm (x_t4 (List.mem_of_getElem? (i := 222) rfl)) rfl
set_option maxRecDepth 100000 in
theorem mv_7_undo : (Cond.selects RX7 yX7_undo yX7_undo) ∈ x_big := x_mm (x_t4 (List.mem_of_getElem? (i := 223) rfl)) rfl
set_option maxRecDepth 100000 in
theorem mc_7_undo : (Cond.code yX7_undo cX7_undo 2 (some .int)) ∈ x_big := x_mm (x_t4 (List.mem_of_getElem? (i := 224) rfl)) rfl
set_option maxRecDepth 100000 in
theorem ml_L_30 : (Cond.methodLink RL 30 yX7_fault) ∈ x_big := x_mm (x_t4 (List.mem_of_getElem? (i := 225) rfl)) rfl
set_option maxRecDepth 100000 in
theorem mi_7_fault : (Cond.instanceMethod yX7_fault) ∈ x_big := x_mm (x_t4 (List.mem_of_getElem? (i := 226) rfl)) rfl
set_option maxRecDepth 100000 in
theorem mv_7_fault : (Cond.selects RX7 yX7_fault yX7_fault) ∈ x_big := x_mm (x_t4 (List.mem_of_getElem? (i := 227) rfl)) rfl
set_option maxRecDepth 100000 in
theorem mc_7_fault : (Cond.code yX7_fault cX7_fault 2 (some .int)) ∈ x_big := x_mm (x_t4 (List.mem_of_getElem? (i := 228) rfl)) rfl
set_option maxRecDepth 100000 in
theorem ml_7_148 : (Cond.methodLink RX7 148 yX7_faultOf) ∈ x_big := x_mm (x_t4 (List.mem_of_getElem? (i := 229) rfl)) rfl
set_option maxRecDepth 100000 in
theorem mi_7_faultOf : (Cond.instanceMethod yX7_faultOf) ∈ x_big := x_mm (x_t4 (List.mem_of_getElem? (i := 231) rfl)) rfl
set_option maxRecDepth 100000 in
theorem mc_7_faultOf : (Cond.code yX7_faultOf cX7_faultOf 4 (some .int)) ∈ x_big := x_mm (x_t4 (List.mem_of_getElem? (i := 232) rfl)) rfl
set_option maxRecDepth 100000 in
theorem ml_7_141 : (Cond.methodLink RX7 141 yX7_readsStone) ∈ x_big := x_mm (x_t4 (List.mem_of_getElem? (i := 233) rfl)) rfl
set_option maxRecDepth 100000 in
theorem mi_7_readsStone : (Cond.instanceMethod yX7_readsStone) ∈ x_big := x_mm (x_t4 (List.mem_of_getElem? (i := 235) rfl)) rfl
set_option maxRecDepth 100000 in
theorem mc_7_readsStone : (Cond.code yX7_readsStone cX7_readsStone 2 (some .int)) ∈ x_big := x_mm (x_t4 (List.mem_of_getElem? (i := 236) rfl)) rfl
set_option maxRecDepth 100000 in
theorem ml_7_145 : (Cond.methodLink RX7 145 yX7_readsMembers) ∈ x_big := x_mm (x_t4 (List.mem_of_getElem? (i := 237) rfl)) rfl
set_option maxRecDepth 100000 in
theorem mi_7_readsMembers : (Cond.instanceMethod yX7_readsMembers) ∈ x_big := x_mm (x_t4 (List.mem_of_getElem? (i := 239) rfl)) rfl
set_option maxRecDepth 100000 in
theorem mc_7_readsMembers : (Cond.code yX7_readsMembers cX7_readsMembers 4 (some .int)) ∈ x_big := x_mm (x_t5 (List.mem_of_getElem? (i := 0) rfl)) rfl
set_option maxRecDepth 100000 in
theorem ml_7_137 : (Cond.methodLink RX7 137 yX7_readsMember) ∈ x_big := x_mm (x_t5 (List.mem_of_getElem? (i := 1) rfl)) rfl
set_option maxRecDepth 100000 in
theorem mi_7_readsMember : (Cond.instanceMethod yX7_readsMember) ∈ x_big := x_mm (x_t5 (List.mem_of_getElem? (i := 3) rfl)) rfl
set_option maxRecDepth 100000 in
theorem mc_7_readsMember : (Cond.code yX7_readsMember cX7_readsMember 4 (some .int)) ∈ x_big := x_mm (x_t5 (List.mem_of_getElem? (i := 4) rfl)) rfl
set_option maxRecDepth 100000 in
theorem ml_7_131 : (Cond.methodLink RX7 131 yX7_sortAt) ∈ x_big := x_mm (x_t5 (List.mem_of_getElem? (i := 5) rfl)) rfl
set_option maxRecDepth 100000 in
theorem mi_7_sortAt : (Cond.instanceMethod yX7_sortAt) ∈ x_big := x_mm (x_t5 (List.mem_of_getElem? (i := 7) rfl)) rfl
set_option maxRecDepth 100000 in
theorem mc_7_sortAt : (Cond.code yX7_sortAt cX7_sortAt 3 (some .int)) ∈ x_big := x_mm (x_t5 (List.mem_of_getElem? (i := 8) rfl)) rfl
set_option maxRecDepth 100000 in
theorem ml_7_127 : (Cond.methodLink RX7 127 yX7_byteAt) ∈ x_big := x_mm (x_t5 (List.mem_of_getElem? (i := 9) rfl)) rfl
set_option maxRecDepth 100000 in
theorem mi_7_byteAt : (Cond.instanceMethod yX7_byteAt) ∈ x_big := x_mm (x_t5 (List.mem_of_getElem? (i := 11) rfl)) rfl
set_option maxRecDepth 100000 in
theorem mc_7_byteAt : (Cond.code yX7_byteAt cX7_byteAt 2 (some .int)) ∈ x_big := x_mm (x_t5 (List.mem_of_getElem? (i := 12) rfl)) rfl
set_option maxRecDepth 100000 in
theorem ml_L_34 : (Cond.methodLink RL 34 yX7_stone) ∈ x_big := x_mm (x_t5 (List.mem_of_getElem? (i := 13) rfl)) rfl
set_option maxRecDepth 100000 in
theorem mi_7_stone : (Cond.instanceMethod yX7_stone) ∈ x_big := x_mm (x_t5 (List.mem_of_getElem? (i := 14) rfl)) rfl
set_option maxRecDepth 100000 in
theorem mv_7_stone : (Cond.selects RX7 yX7_stone yX7_stone) ∈ x_big := x_mm (x_t5 (List.mem_of_getElem? (i := 15) rfl)) rfl
set_option maxRecDepth 100000 in
theorem mc_7_stone : (Cond.code yX7_stone cX7_stone 2 (some .int)) ∈ x_big := x_mm (x_t5 (List.mem_of_getElem? (i := 16) rfl)) rfl
set_option maxRecDepth 100000 in
theorem ml_7_154 : (Cond.methodLink RX7 154 yX7_isPlace) ∈ x_big := x_mm (x_t5 (List.mem_of_getElem? (i := 17) rfl)) rfl
set_option maxRecDepth 100000 in
theorem ms_7_isPlace : (Cond.static yX7_isPlace) ∈ x_big := x_mm (x_t5 (List.mem_of_getElem? (i := 18) rfl)) rfl
set_option maxRecDepth 100000 in
theorem mc_7_isPlace : (Cond.code yX7_isPlace cX7_isPlace 1 (some .boolean)) ∈ x_big := x_mm (x_t5 (List.mem_of_getElem? (i := 19) rfl)) rfl
set_option maxRecDepth 100000 in
theorem ml_7_157 : (Cond.methodLink RX7 157 yX7_stoneOf) ∈ x_big := x_mm (x_t5 (List.mem_of_getElem? (i := 20) rfl)) rfl
set_option maxRecDepth 100000 in
theorem mi_7_stoneOf : (Cond.instanceMethod yX7_stoneOf) ∈ x_big := x_mm (x_t5 (List.mem_of_getElem? (i := 22) rfl)) rfl
set_option maxRecDepth 100000 in
theorem mc_7_stoneOf : (Cond.code yX7_stoneOf cX7_stoneOf 2 (some .int)) ∈ x_big := x_mm (x_t5 (List.mem_of_getElem? (i := 23) rfl)) rfl
set_option maxRecDepth 100000 in
theorem ml_7_151 : (Cond.methodLink RX7 151 yX7_reads) ∈ x_big := x_mm (x_t5 (List.mem_of_getElem? (i := 24) rfl)) rfl
set_option maxRecDepth 100000 in
theorem mi_7_reads : (Cond.instanceMethod yX7_reads) ∈ x_big := x_mm (x_t5 (List.mem_of_getElem? (i := 26) rfl)) rfl
set_option maxRecDepth 100000 in
theorem mc_7_reads : (Cond.code yX7_reads cX7_reads 2 none) ∈ x_big := x_mm (x_t5 (List.mem_of_getElem? (i := 27) rfl)) rfl
set_option maxRecDepth 100000 in
theorem ml_L_38 : (Cond.methodLink RL 38 yX7_member) ∈ x_big := x_mm (x_t5 (List.mem_of_getElem? (i := 28) rfl)) rfl
set_option maxRecDepth 100000 in
theorem mi_7_member : (Cond.instanceMethod yX7_member) ∈ x_big := x_mm (x_t5 (List.mem_of_getElem? (i := 29) rfl)) rfl
set_option maxRecDepth 100000 in
theorem mv_7_member : (Cond.selects RX7 yX7_member yX7_member) ∈ x_big := x_mm (x_t5 (List.mem_of_getElem? (i := 30) rfl)) rfl
set_option maxRecDepth 100000 in
theorem mc_7_member : (Cond.code yX7_member cX7_member 3 (some .int)) ∈ x_big := x_mm (x_t5 (List.mem_of_getElem? (i := 31) rfl)) rfl
set_option maxRecDepth 100000 in
theorem ml_7_160 : (Cond.methodLink RX7 160 yX7_isMember) ∈ x_big := x_mm (x_t5 (List.mem_of_getElem? (i := 32) rfl)) rfl
set_option maxRecDepth 100000 in
theorem mi_7_isMember : (Cond.instanceMethod yX7_isMember) ∈ x_big := x_mm (x_t5 (List.mem_of_getElem? (i := 34) rfl)) rfl
set_option maxRecDepth 100000 in
theorem mc_7_isMember : (Cond.code yX7_isMember cX7_isMember 2 (some .boolean)) ∈ x_big := x_mm (x_t5 (List.mem_of_getElem? (i := 35) rfl)) rfl
set_option maxRecDepth 100000 in
theorem ml_7_163 : (Cond.methodLink RX7 163 yX7_memberOf) ∈ x_big := x_mm (x_t5 (List.mem_of_getElem? (i := 36) rfl)) rfl
set_option maxRecDepth 100000 in
theorem mi_7_memberOf : (Cond.instanceMethod yX7_memberOf) ∈ x_big := x_mm (x_t5 (List.mem_of_getElem? (i := 38) rfl)) rfl
set_option maxRecDepth 100000 in
theorem mc_7_memberOf : (Cond.code yX7_memberOf cX7_memberOf 3 (some .int)) ∈ x_big := x_mm (x_t5 (List.mem_of_getElem? (i := 39) rfl)) rfl
set_option maxRecDepth 100000 in
theorem ml_L_43 : (Cond.methodLink RL 43 yX7_event) ∈ x_big := x_mm (x_t5 (List.mem_of_getElem? (i := 40) rfl)) rfl
set_option maxRecDepth 100000 in
theorem mi_7_event : (Cond.instanceMethod yX7_event) ∈ x_big := x_mm (x_t5 (List.mem_of_getElem? (i := 41) rfl)) rfl
set_option maxRecDepth 100000 in
theorem mv_7_event : (Cond.selects RX7 yX7_event yX7_event) ∈ x_big := x_mm (x_t5 (List.mem_of_getElem? (i := 42) rfl)) rfl
set_option maxRecDepth 100000 in
theorem mc_7_event : (Cond.code yX7_event cX7_event 4 (some .int)) ∈ x_big := x_mm (x_t5 (List.mem_of_getElem? (i := 43) rfl)) rfl
set_option maxRecDepth 100000 in
theorem ml_7_166 : (Cond.methodLink RX7 166 yX7_isHour) ∈ x_big := x_mm (x_t5 (List.mem_of_getElem? (i := 44) rfl)) rfl
set_option maxRecDepth 100000 in
theorem ms_7_isHour : (Cond.static yX7_isHour) ∈ x_big := x_mm (x_t5 (List.mem_of_getElem? (i := 45) rfl)) rfl
set_option maxRecDepth 100000 in
theorem mc_7_isHour : (Cond.code yX7_isHour cX7_isHour 1 (some .boolean)) ∈ x_big := x_mm (x_t5 (List.mem_of_getElem? (i := 46) rfl)) rfl
set_option maxRecDepth 100000 in
theorem ml_L_48 : (Cond.methodLink RL 48 yX7_back) ∈ x_big := x_mm (x_t5 (List.mem_of_getElem? (i := 47) rfl)) rfl
set_option maxRecDepth 100000 in
theorem mi_7_back : (Cond.instanceMethod yX7_back) ∈ x_big := x_mm (x_t5 (List.mem_of_getElem? (i := 48) rfl)) rfl
set_option maxRecDepth 100000 in
theorem mv_7_back : (Cond.selects RX7 yX7_back yX7_back) ∈ x_big := x_mm (x_t5 (List.mem_of_getElem? (i := 49) rfl)) rfl
set_option maxRecDepth 100000 in
theorem mc_7_back : (Cond.code yX7_back cX7_back 1 (some .int)) ∈ x_big := x_mm (x_t5 (List.mem_of_getElem? (i := 50) rfl)) rfl
set_option maxRecDepth 100000 in
theorem ml_L_52 : (Cond.methodLink RL 52 yX7_read) ∈ x_big := x_mm (x_t5 (List.mem_of_getElem? (i := 51) rfl)) rfl
set_option maxRecDepth 100000 in
theorem mi_7_read : (Cond.instanceMethod yX7_read) ∈ x_big := x_mm (x_t5 (List.mem_of_getElem? (i := 52) rfl)) rfl
set_option maxRecDepth 100000 in
theorem mv_7_read : (Cond.selects RX7 yX7_read yX7_read) ∈ x_big := x_mm (x_t5 (List.mem_of_getElem? (i := 53) rfl)) rfl
set_option maxRecDepth 100000 in
theorem mc_7_read : (Cond.code yX7_read cX7_read 4 (some .int)) ∈ x_big := x_mm (x_t5 (List.mem_of_getElem? (i := 54) rfl)) rfl
set_option maxRecDepth 100000 in
theorem ml_7_172 : (Cond.methodLink RX7 172 yX7_isSheet) ∈ x_big := x_mm (x_t5 (List.mem_of_getElem? (i := 55) rfl)) rfl
set_option maxRecDepth 100000 in
theorem ms_7_isSheet : (Cond.static yX7_isSheet) ∈ x_big := x_mm (x_t5 (List.mem_of_getElem? (i := 56) rfl)) rfl
set_option maxRecDepth 100000 in
theorem mc_7_isSheet : (Cond.code yX7_isSheet cX7_isSheet 1 (some .boolean)) ∈ x_big := x_mm (x_t5 (List.mem_of_getElem? (i := 57) rfl)) rfl
set_option maxRecDepth 100000 in
theorem ml_7_175 : (Cond.methodLink RX7 175 yX7_meets) ∈ x_big := x_mm (x_t5 (List.mem_of_getElem? (i := 58) rfl)) rfl
set_option maxRecDepth 100000 in
theorem mi_7_meets : (Cond.instanceMethod yX7_meets) ∈ x_big := x_mm (x_t5 (List.mem_of_getElem? (i := 60) rfl)) rfl
set_option maxRecDepth 100000 in
theorem mc_7_meets : (Cond.code yX7_meets cX7_meets 2 (some .int)) ∈ x_big := x_mm (x_t5 (List.mem_of_getElem? (i := 61) rfl)) rfl
set_option maxRecDepth 100000 in
theorem ml_7_178 : (Cond.methodLink RX7 178 yX7_event) ∈ x_big := x_mm (x_t5 (List.mem_of_getElem? (i := 62) rfl)) rfl
set_option maxRecDepth 100000 in
theorem ml_L_56 : (Cond.methodLink RL 56 yX7_damp) ∈ x_big := x_mm (x_t5 (List.mem_of_getElem? (i := 63) rfl)) rfl
set_option maxRecDepth 100000 in
theorem mi_7_damp : (Cond.instanceMethod yX7_damp) ∈ x_big := x_mm (x_t5 (List.mem_of_getElem? (i := 64) rfl)) rfl
set_option maxRecDepth 100000 in
theorem mv_7_damp : (Cond.selects RX7 yX7_damp yX7_damp) ∈ x_big := x_mm (x_t5 (List.mem_of_getElem? (i := 65) rfl)) rfl
set_option maxRecDepth 100000 in
theorem mc_7_damp : (Cond.code yX7_damp cX7_damp 4 (some .int)) ∈ x_big := x_mm (x_t5 (List.mem_of_getElem? (i := 66) rfl)) rfl
set_option maxRecDepth 100000 in
theorem ml_7_242 : (Cond.methodLink RX7 242 yX7_dampOf) ∈ x_big := x_mm (x_t5 (List.mem_of_getElem? (i := 67) rfl)) rfl
set_option maxRecDepth 100000 in
theorem mi_7_dampOf : (Cond.instanceMethod yX7_dampOf) ∈ x_big := x_mm (x_t5 (List.mem_of_getElem? (i := 69) rfl)) rfl
set_option maxRecDepth 100000 in
theorem mc_7_dampOf : (Cond.code yX7_dampOf cX7_dampOf 4 (some .int)) ∈ x_big := x_mm (x_t5 (List.mem_of_getElem? (i := 70) rfl)) rfl
set_option maxRecDepth 100000 in
theorem ml_7_239 : (Cond.methodLink RX7 239 yX7_runsTold) ∈ x_big := x_mm (x_t5 (List.mem_of_getElem? (i := 71) rfl)) rfl
set_option maxRecDepth 100000 in
theorem mi_7_runsTold : (Cond.instanceMethod yX7_runsTold) ∈ x_big := x_mm (x_t5 (List.mem_of_getElem? (i := 73) rfl)) rfl
set_option maxRecDepth 100000 in
theorem mc_7_runsTold : (Cond.code yX7_runsTold cX7_runsTold 1 none) ∈ x_big := x_mm (x_t5 (List.mem_of_getElem? (i := 74) rfl)) rfl
set_option maxRecDepth 100000 in
theorem ml_7_233 : (Cond.methodLink RX7 233 yX7_asTold) ∈ x_big := x_mm (x_t5 (List.mem_of_getElem? (i := 75) rfl)) rfl
set_option maxRecDepth 100000 in
theorem mi_7_asTold : (Cond.instanceMethod yX7_asTold) ∈ x_big := x_mm (x_t5 (List.mem_of_getElem? (i := 77) rfl)) rfl
set_option maxRecDepth 100000 in
theorem mc_7_asTold : (Cond.code yX7_asTold cX7_asTold 2 none) ∈ x_big := x_mm (x_t5 (List.mem_of_getElem? (i := 78) rfl)) rfl
set_option maxRecDepth 100000 in
theorem ml_7_236 : (Cond.methodLink RX7 236 yX7_runs) ∈ x_big := x_mm (x_t5 (List.mem_of_getElem? (i := 79) rfl)) rfl
set_option maxRecDepth 100000 in
theorem mi_7_runs : (Cond.instanceMethod yX7_runs) ∈ x_big := x_mm (x_t5 (List.mem_of_getElem? (i := 81) rfl)) rfl
set_option maxRecDepth 100000 in
theorem mc_7_runs : (Cond.code yX7_runs cX7_runs 2 none) ∈ x_big := x_mm (x_t5 (List.mem_of_getElem? (i := 82) rfl)) rfl
set_option maxRecDepth 100000 in
theorem ml_7_230 : (Cond.methodLink RX7 230 yX7_goesBy) ∈ x_big := x_mm (x_t5 (List.mem_of_getElem? (i := 83) rfl)) rfl
set_option maxRecDepth 100000 in
theorem mi_7_goesBy : (Cond.instanceMethod yX7_goesBy) ∈ x_big := x_mm (x_t5 (List.mem_of_getElem? (i := 85) rfl)) rfl
set_option maxRecDepth 100000 in
theorem mc_7_goesBy : (Cond.code yX7_goesBy cX7_goesBy 3 none) ∈ x_big := x_mm (x_t5 (List.mem_of_getElem? (i := 86) rfl)) rfl
set_option maxRecDepth 100000 in
theorem ml_7_215 : (Cond.methodLink RX7 215 yX7_isIn) ∈ x_big := x_mm (x_t5 (List.mem_of_getElem? (i := 87) rfl)) rfl
set_option maxRecDepth 100000 in
theorem ms_7_isIn : (Cond.static yX7_isIn) ∈ x_big := x_mm (x_t5 (List.mem_of_getElem? (i := 88) rfl)) rfl
set_option maxRecDepth 100000 in
theorem mc_7_isIn : (Cond.code yX7_isIn cX7_isIn 2 (some .boolean)) ∈ x_big := x_mm (x_t5 (List.mem_of_getElem? (i := 89) rfl)) rfl
set_option maxRecDepth 100000 in
theorem ml_7_218 : (Cond.methodLink RX7 218 yX7_befalls) ∈ x_big := x_mm (x_t5 (List.mem_of_getElem? (i := 90) rfl)) rfl
set_option maxRecDepth 100000 in
theorem mi_7_befalls : (Cond.instanceMethod yX7_befalls) ∈ x_big := x_mm (x_t5 (List.mem_of_getElem? (i := 92) rfl)) rfl
set_option maxRecDepth 100000 in
theorem mc_7_befalls : (Cond.code yX7_befalls cX7_befalls 3 none) ∈ x_big := x_mm (x_t5 (List.mem_of_getElem? (i := 93) rfl)) rfl
set_option maxRecDepth 100000 in
theorem ml_7_188 : (Cond.methodLink RX7 188 yX7_lifts) ∈ x_big := x_mm (x_t5 (List.mem_of_getElem? (i := 94) rfl)) rfl
set_option maxRecDepth 100000 in
theorem mi_7_lifts : (Cond.instanceMethod yX7_lifts) ∈ x_big := x_mm (x_t5 (List.mem_of_getElem? (i := 96) rfl)) rfl
set_option maxRecDepth 100000 in
theorem mc_7_lifts : (Cond.code yX7_lifts cX7_lifts 3 none) ∈ x_big := x_mm (x_t5 (List.mem_of_getElem? (i := 97) rfl)) rfl
set_option maxRecDepth 100000 in
theorem ml_7_192 : (Cond.methodLink RX7 192 yX7_peppers) ∈ x_big := x_mm (x_t5 (List.mem_of_getElem? (i := 98) rfl)) rfl
set_option maxRecDepth 100000 in
theorem mi_7_peppers : (Cond.instanceMethod yX7_peppers) ∈ x_big := x_mm (x_t5 (List.mem_of_getElem? (i := 100) rfl)) rfl
set_option maxRecDepth 100000 in
theorem mc_7_peppers : (Cond.code yX7_peppers cX7_peppers 3 none) ∈ x_big := x_mm (x_t5 (List.mem_of_getElem? (i := 101) rfl)) rfl
set_option maxRecDepth 100000 in
theorem ml_7_195 : (Cond.methodLink RX7 195 yX7_wets) ∈ x_big := x_mm (x_t5 (List.mem_of_getElem? (i := 102) rfl)) rfl
set_option maxRecDepth 100000 in
theorem mi_7_wets : (Cond.instanceMethod yX7_wets) ∈ x_big := x_mm (x_t5 (List.mem_of_getElem? (i := 104) rfl)) rfl
set_option maxRecDepth 100000 in
theorem mc_7_wets : (Cond.code yX7_wets cX7_wets 4 none) ∈ x_big := x_mm (x_t5 (List.mem_of_getElem? (i := 105) rfl)) rfl
set_option maxRecDepth 100000 in
theorem ml_7_221 : (Cond.methodLink RX7 221 yX7_walks) ∈ x_big := x_mm (x_t5 (List.mem_of_getElem? (i := 106) rfl)) rfl
set_option maxRecDepth 100000 in
theorem mi_7_walks : (Cond.instanceMethod yX7_walks) ∈ x_big := x_mm (x_t5 (List.mem_of_getElem? (i := 108) rfl)) rfl
set_option maxRecDepth 100000 in
theorem mc_7_walks : (Cond.code yX7_walks cX7_walks 5 none) ∈ x_big := x_mm (x_t5 (List.mem_of_getElem? (i := 109) rfl)) rfl
set_option maxRecDepth 100000 in
theorem ml_7_198 : (Cond.methodLink RX7 198 yX7_isRolled) ∈ x_big := x_mm (x_t5 (List.mem_of_getElem? (i := 110) rfl)) rfl
set_option maxRecDepth 100000 in
theorem mi_7_isRolled : (Cond.instanceMethod yX7_isRolled) ∈ x_big := x_mm (x_t5 (List.mem_of_getElem? (i := 112) rfl)) rfl
set_option maxRecDepth 100000 in
theorem mc_7_isRolled : (Cond.code yX7_isRolled cX7_isRolled 3 (some .boolean)) ∈ x_big := x_mm (x_t5 (List.mem_of_getElem? (i := 113) rfl)) rfl
set_option maxRecDepth 100000 in
theorem ml_7_212 : (Cond.methodLink RX7 212 yX7_steps) ∈ x_big := x_mm (x_t5 (List.mem_of_getElem? (i := 114) rfl)) rfl
set_option maxRecDepth 100000 in
theorem mi_7_steps : (Cond.instanceMethod yX7_steps) ∈ x_big := x_mm (x_t5 (List.mem_of_getElem? (i := 116) rfl)) rfl
set_option maxRecDepth 100000 in
theorem mc_7_steps : (Cond.code yX7_steps cX7_steps 6 none) ∈ x_big := x_mm (x_t5 (List.mem_of_getElem? (i := 117) rfl)) rfl
set_option maxRecDepth 100000 in
theorem ml_7_202 : (Cond.methodLink RX7 202 yX7_dampNow) ∈ x_big := x_mm (x_t5 (List.mem_of_getElem? (i := 118) rfl)) rfl
set_option maxRecDepth 100000 in
theorem mi_7_dampNow : (Cond.instanceMethod yX7_dampNow) ∈ x_big := x_mm (x_t5 (List.mem_of_getElem? (i := 120) rfl)) rfl
set_option maxRecDepth 100000 in
theorem mc_7_dampNow : (Cond.code yX7_dampNow cX7_dampNow 2 (some .int)) ∈ x_big := x_mm (x_t5 (List.mem_of_getElem? (i := 121) rfl)) rfl
set_option maxRecDepth 100000 in
theorem ml_7_208 : (Cond.methodLink RX7 208 yX7_passesOver) ∈ x_big := x_mm (x_t5 (List.mem_of_getElem? (i := 122) rfl)) rfl
set_option maxRecDepth 100000 in
theorem mi_7_passesOver : (Cond.instanceMethod yX7_passesOver) ∈ x_big := x_mm (x_t5 (List.mem_of_getElem? (i := 124) rfl)) rfl
set_option maxRecDepth 100000 in
theorem mc_7_passesOver : (Cond.code yX7_passesOver cX7_passesOver 5 none) ∈ x_big := x_mm (x_t5 (List.mem_of_getElem? (i := 125) rfl)) rfl
set_option maxRecDepth 100000 in
theorem ml_7_224 : (Cond.methodLink RX7 224 yX7_manyAt) ∈ x_big := x_mm (x_t5 (List.mem_of_getElem? (i := 126) rfl)) rfl
set_option maxRecDepth 100000 in
theorem mi_7_manyAt : (Cond.instanceMethod yX7_manyAt) ∈ x_big := x_mm (x_t5 (List.mem_of_getElem? (i := 128) rfl)) rfl
set_option maxRecDepth 100000 in
theorem mc_7_manyAt : (Cond.code yX7_manyAt cX7_manyAt 5 (some .int)) ∈ x_big := x_mm (x_t5 (List.mem_of_getElem? (i := 129) rfl)) rfl
set_option maxRecDepth 100000 in
theorem ml_7_227 : (Cond.methodLink RX7 227 yX7_divides) ∈ x_big := x_mm (x_t5 (List.mem_of_getElem? (i := 130) rfl)) rfl
set_option maxRecDepth 100000 in
theorem mi_7_divides : (Cond.instanceMethod yX7_divides) ∈ x_big := x_mm (x_t5 (List.mem_of_getElem? (i := 132) rfl)) rfl
set_option maxRecDepth 100000 in
theorem mc_7_divides : (Cond.code yX7_divides cX7_divides 4 none) ∈ x_big := x_mm (x_t5 (List.mem_of_getElem? (i := 133) rfl)) rfl
set_option maxRecDepth 100000 in
theorem ml_L_60 : (Cond.methodLink RL 60 yX7_at) ∈ x_big := x_mm (x_t5 (List.mem_of_getElem? (i := 134) rfl)) rfl
set_option maxRecDepth 100000 in
theorem mi_7_at : (Cond.instanceMethod yX7_at) ∈ x_big := x_mm (x_t5 (List.mem_of_getElem? (i := 135) rfl)) rfl
set_option maxRecDepth 100000 in
theorem mv_7_at : (Cond.selects RX7 yX7_at yX7_at) ∈ x_big := x_mm (x_t5 (List.mem_of_getElem? (i := 136) rfl)) rfl
set_option maxRecDepth 100000 in
theorem mc_7_at : (Cond.code yX7_at cX7_at 4 (some .int)) ∈ x_big := x_mm (x_t5 (List.mem_of_getElem? (i := 137) rfl)) rfl
set_option maxRecDepth 100000 in
theorem ml_7_245 : (Cond.methodLink RX7 245 yX7_atOf) ∈ x_big := x_mm (x_t5 (List.mem_of_getElem? (i := 138) rfl)) rfl
set_option maxRecDepth 100000 in
theorem mi_7_atOf : (Cond.instanceMethod yX7_atOf) ∈ x_big := x_mm (x_t5 (List.mem_of_getElem? (i := 140) rfl)) rfl
set_option maxRecDepth 100000 in
theorem mc_7_atOf : (Cond.code yX7_atOf cX7_atOf 5 (some .int)) ∈ x_big := x_mm (x_t5 (List.mem_of_getElem? (i := 141) rfl)) rfl
set_option maxRecDepth 100000 in
theorem ml_L_64 : (Cond.methodLink RL 64 yX7_house) ∈ x_big := x_mm (x_t5 (List.mem_of_getElem? (i := 142) rfl)) rfl
set_option maxRecDepth 100000 in
theorem mi_7_house : (Cond.instanceMethod yX7_house) ∈ x_big := x_mm (x_t5 (List.mem_of_getElem? (i := 143) rfl)) rfl
set_option maxRecDepth 100000 in
theorem mv_7_house : (Cond.selects RX7 yX7_house yX7_house) ∈ x_big := x_mm (x_t5 (List.mem_of_getElem? (i := 144) rfl)) rfl
set_option maxRecDepth 100000 in
theorem mc_7_house : (Cond.code yX7_house cX7_house 3 (some .int)) ∈ x_big := x_mm (x_t5 (List.mem_of_getElem? (i := 145) rfl)) rfl
set_option maxRecDepth 100000 in
theorem ml_7_251 : (Cond.methodLink RX7 251 yX7_houseOf) ∈ x_big := x_mm (x_t5 (List.mem_of_getElem? (i := 146) rfl)) rfl
set_option maxRecDepth 100000 in
theorem mi_7_houseOf : (Cond.instanceMethod yX7_houseOf) ∈ x_big := x_mm (x_t5 (List.mem_of_getElem? (i := 148) rfl)) rfl
set_option maxRecDepth 100000 in
theorem mc_7_houseOf : (Cond.code yX7_houseOf cX7_houseOf 3 (some .int)) ∈ x_big := x_mm (x_t5 (List.mem_of_getElem? (i := 149) rfl)) rfl
set_option maxRecDepth 100000 in
theorem ml_7_248 : (Cond.methodLink RX7 248 yX7_isCarried) ∈ x_big := x_mm (x_t5 (List.mem_of_getElem? (i := 150) rfl)) rfl
set_option maxRecDepth 100000 in
theorem mi_7_isCarried : (Cond.instanceMethod yX7_isCarried) ∈ x_big := x_mm (x_t5 (List.mem_of_getElem? (i := 152) rfl)) rfl
set_option maxRecDepth 100000 in
theorem mc_7_isCarried : (Cond.code yX7_isCarried cX7_isCarried 2 (some .boolean)) ∈ x_big := x_mm (x_t5 (List.mem_of_getElem? (i := 153) rfl)) rfl
set_option maxRecDepth 100000 in
theorem ml_L_68 : (Cond.methodLink RL 68 yX7_governments) ∈ x_big := x_mm (x_t5 (List.mem_of_getElem? (i := 154) rfl)) rfl
set_option maxRecDepth 100000 in
theorem mi_7_governments : (Cond.instanceMethod yX7_governments) ∈ x_big := x_mm (x_t5 (List.mem_of_getElem? (i := 155) rfl)) rfl
set_option maxRecDepth 100000 in
theorem mv_7_governments : (Cond.selects RX7 yX7_governments yX7_governments) ∈ x_big := x_mm (x_t5 (List.mem_of_getElem? (i := 156) rfl)) rfl
set_option maxRecDepth 100000 in
theorem mc_7_governments : (Cond.code yX7_governments cX7_governments 1 (some .int)) ∈ x_big := x_mm (x_t5 (List.mem_of_getElem? (i := 157) rfl)) rfl
set_option maxRecDepth 100000 in
theorem ml_7_257 : (Cond.methodLink RX7 257 yX7_governmentsOf) ∈ x_big := x_mm (x_t5 (List.mem_of_getElem? (i := 158) rfl)) rfl
set_option maxRecDepth 100000 in
theorem mi_7_governmentsOf : (Cond.instanceMethod yX7_governmentsOf) ∈ x_big := x_mm (x_t5 (List.mem_of_getElem? (i := 160) rfl)) rfl
set_option maxRecDepth 100000 in
theorem mc_7_governmentsOf : (Cond.code yX7_governmentsOf cX7_governmentsOf 1 (some .int)) ∈ x_big := x_mm (x_t5 (List.mem_of_getElem? (i := 161) rfl)) rfl
set_option maxRecDepth 100000 in
theorem ml_7_254 : (Cond.methodLink RX7 254 yX7_governmentsNow) ∈ x_big := x_mm (x_t5 (List.mem_of_getElem? (i := 162) rfl)) rfl
set_option maxRecDepth 100000 in
theorem mi_7_governmentsNow : (Cond.instanceMethod yX7_governmentsNow) ∈ x_big := x_mm (x_t5 (List.mem_of_getElem? (i := 164) rfl)) rfl
set_option maxRecDepth 100000 in
theorem mc_7_governmentsNow : (Cond.code yX7_governmentsNow cX7_governmentsNow 3 (some .int)) ∈ x_big := x_mm (x_t5 (List.mem_of_getElem? (i := 165) rfl)) rfl
set_option maxRecDepth 100000 in
theorem ml_L_72 : (Cond.methodLink RL 72 yX7_carried) ∈ x_big := x_mm (x_t5 (List.mem_of_getElem? (i := 166) rfl)) rfl
set_option maxRecDepth 100000 in
theorem mi_7_carried : (Cond.instanceMethod yX7_carried) ∈ x_big := x_mm (x_t5 (List.mem_of_getElem? (i := 167) rfl)) rfl
set_option maxRecDepth 100000 in
theorem mv_7_carried : (Cond.selects RX7 yX7_carried yX7_carried) ∈ x_big := x_mm (x_t5 (List.mem_of_getElem? (i := 168) rfl)) rfl
set_option maxRecDepth 100000 in
theorem mc_7_carried : (Cond.code yX7_carried cX7_carried 1 (some .int)) ∈ x_big := x_mm (x_t5 (List.mem_of_getElem? (i := 169) rfl)) rfl
set_option maxRecDepth 100000 in
theorem ml_7_263 : (Cond.methodLink RX7 263 yX7_carriedOf) ∈ x_big := x_mm (x_t5 (List.mem_of_getElem? (i := 170) rfl)) rfl
set_option maxRecDepth 100000 in
theorem mi_7_carriedOf : (Cond.instanceMethod yX7_carriedOf) ∈ x_big := x_mm (x_t5 (List.mem_of_getElem? (i := 172) rfl)) rfl
set_option maxRecDepth 100000 in
theorem mc_7_carriedOf : (Cond.code yX7_carriedOf cX7_carriedOf 1 (some .int)) ∈ x_big := x_mm (x_t5 (List.mem_of_getElem? (i := 173) rfl)) rfl
set_option maxRecDepth 100000 in
theorem ml_7_260 : (Cond.methodLink RX7 260 yX7_carriedNow) ∈ x_big := x_mm (x_t5 (List.mem_of_getElem? (i := 174) rfl)) rfl
set_option maxRecDepth 100000 in
theorem mi_7_carriedNow : (Cond.instanceMethod yX7_carriedNow) ∈ x_big := x_mm (x_t5 (List.mem_of_getElem? (i := 176) rfl)) rfl
set_option maxRecDepth 100000 in
theorem mc_7_carriedNow : (Cond.code yX7_carriedNow cX7_carriedNow 3 (some .int)) ∈ x_big := x_mm (x_t5 (List.mem_of_getElem? (i := 177) rfl)) rfl
set_option maxRecDepth 100000 in
theorem ml_L_76 : (Cond.methodLink RL 76 yX7_crowd) ∈ x_big := x_mm (x_t5 (List.mem_of_getElem? (i := 178) rfl)) rfl
set_option maxRecDepth 100000 in
theorem mi_7_crowd : (Cond.instanceMethod yX7_crowd) ∈ x_big := x_mm (x_t5 (List.mem_of_getElem? (i := 179) rfl)) rfl
set_option maxRecDepth 100000 in
theorem mv_7_crowd : (Cond.selects RX7 yX7_crowd yX7_crowd) ∈ x_big := x_mm (x_t5 (List.mem_of_getElem? (i := 180) rfl)) rfl
set_option maxRecDepth 100000 in
theorem mc_7_crowd : (Cond.code yX7_crowd cX7_crowd 2 (some .int)) ∈ x_big := x_mm (x_t5 (List.mem_of_getElem? (i := 181) rfl)) rfl
set_option maxRecDepth 100000 in
theorem ml_7_266 : (Cond.methodLink RX7 266 yX7_crowdOf) ∈ x_big := x_mm (x_t5 (List.mem_of_getElem? (i := 182) rfl)) rfl
set_option maxRecDepth 100000 in
theorem mi_7_crowdOf : (Cond.instanceMethod yX7_crowdOf) ∈ x_big := x_mm (x_t5 (List.mem_of_getElem? (i := 184) rfl)) rfl
set_option maxRecDepth 100000 in
theorem mc_7_crowdOf : (Cond.code yX7_crowdOf cX7_crowdOf 6 (some .int)) ∈ x_big := x_mm (x_t5 (List.mem_of_getElem? (i := 185) rfl)) rfl
set_option maxRecDepth 100000 in
theorem ml_L_80 : (Cond.methodLink RL 80 yX7_orator) ∈ x_big := x_mm (x_t5 (List.mem_of_getElem? (i := 186) rfl)) rfl
set_option maxRecDepth 100000 in
theorem mi_7_orator : (Cond.instanceMethod yX7_orator) ∈ x_big := x_mm (x_t5 (List.mem_of_getElem? (i := 187) rfl)) rfl
set_option maxRecDepth 100000 in
theorem mv_7_orator : (Cond.selects RX7 yX7_orator yX7_orator) ∈ x_big := x_mm (x_t5 (List.mem_of_getElem? (i := 188) rfl)) rfl
set_option maxRecDepth 100000 in
theorem mc_7_orator : (Cond.code yX7_orator cX7_orator 1 (some .int)) ∈ x_big := x_mm (x_t5 (List.mem_of_getElem? (i := 189) rfl)) rfl
set_option maxRecDepth 100000 in
theorem ml_7_269 : (Cond.methodLink RX7 269 yX7_oratorOf) ∈ x_big := x_mm (x_t5 (List.mem_of_getElem? (i := 190) rfl)) rfl
set_option maxRecDepth 100000 in
theorem mi_7_oratorOf : (Cond.instanceMethod yX7_oratorOf) ∈ x_big := x_mm (x_t5 (List.mem_of_getElem? (i := 192) rfl)) rfl
set_option maxRecDepth 100000 in
theorem mc_7_oratorOf : (Cond.code yX7_oratorOf cX7_oratorOf 3 (some .int)) ∈ x_big := x_mm (x_t5 (List.mem_of_getElem? (i := 193) rfl)) rfl
set_option maxRecDepth 100000 in
theorem ml_L_84 : (Cond.methodLink RL 84 yX7_still) ∈ x_big := x_mm (x_t5 (List.mem_of_getElem? (i := 194) rfl)) rfl
set_option maxRecDepth 100000 in
theorem mi_7_still : (Cond.instanceMethod yX7_still) ∈ x_big := x_mm (x_t5 (List.mem_of_getElem? (i := 195) rfl)) rfl
set_option maxRecDepth 100000 in
theorem mv_7_still : (Cond.selects RX7 yX7_still yX7_still) ∈ x_big := x_mm (x_t5 (List.mem_of_getElem? (i := 196) rfl)) rfl
set_option maxRecDepth 100000 in
theorem mc_7_still : (Cond.code yX7_still cX7_still 1 (some .int)) ∈ x_big := x_mm (x_t5 (List.mem_of_getElem? (i := 197) rfl)) rfl
set_option maxRecDepth 100000 in
theorem ml_7_272 : (Cond.methodLink RX7 272 yX7_stillOf) ∈ x_big := x_mm (x_t5 (List.mem_of_getElem? (i := 198) rfl)) rfl
set_option maxRecDepth 100000 in
theorem mi_7_stillOf : (Cond.instanceMethod yX7_stillOf) ∈ x_big := x_mm (x_t5 (List.mem_of_getElem? (i := 200) rfl)) rfl
set_option maxRecDepth 100000 in
theorem mc_7_stillOf : (Cond.code yX7_stillOf cX7_stillOf 1 (some .int)) ∈ x_big := x_mm (x_t5 (List.mem_of_getElem? (i := 201) rfl)) rfl
set_option maxRecDepth 100000 in
theorem ml_L_88 : (Cond.methodLink RL 88 yX7_seat) ∈ x_big := x_mm (x_t5 (List.mem_of_getElem? (i := 202) rfl)) rfl
set_option maxRecDepth 100000 in
theorem mi_7_seat : (Cond.instanceMethod yX7_seat) ∈ x_big := x_mm (x_t5 (List.mem_of_getElem? (i := 203) rfl)) rfl
set_option maxRecDepth 100000 in
theorem mv_7_seat : (Cond.selects RX7 yX7_seat yX7_seat) ∈ x_big := x_mm (x_t5 (List.mem_of_getElem? (i := 204) rfl)) rfl
set_option maxRecDepth 100000 in
theorem mc_7_seat : (Cond.code yX7_seat cX7_seat 3 (some .int)) ∈ x_big := x_mm (x_t5 (List.mem_of_getElem? (i := 205) rfl)) rfl
set_option maxRecDepth 100000 in
theorem ml_7_275 : (Cond.methodLink RX7 275 yX7_seatOf) ∈ x_big := x_mm (x_t5 (List.mem_of_getElem? (i := 206) rfl)) rfl
set_option maxRecDepth 100000 in
theorem mi_7_seatOf : (Cond.instanceMethod yX7_seatOf) ∈ x_big := x_mm (x_t5 (List.mem_of_getElem? (i := 208) rfl)) rfl
set_option maxRecDepth 100000 in
theorem mc_7_seatOf : (Cond.code yX7_seatOf cX7_seatOf 8 (some .int)) ∈ x_big := x_mm (x_t5 (List.mem_of_getElem? (i := 209) rfl)) rfl
set_option maxRecDepth 100000 in
theorem ml_L_92 : (Cond.methodLink RL 92 yX7_dust) ∈ x_big := x_mm (x_t5 (List.mem_of_getElem? (i := 210) rfl)) rfl
set_option maxRecDepth 100000 in
theorem mi_7_dust : (Cond.instanceMethod yX7_dust) ∈ x_big := x_mm (x_t5 (List.mem_of_getElem? (i := 211) rfl)) rfl
set_option maxRecDepth 100000 in
theorem mv_7_dust : (Cond.selects RX7 yX7_dust yX7_dust) ∈ x_big := x_mm (x_t5 (List.mem_of_getElem? (i := 212) rfl)) rfl
set_option maxRecDepth 100000 in
theorem mc_7_dust : (Cond.code yX7_dust cX7_dust 3 (some .int)) ∈ x_big := x_mm (x_t5 (List.mem_of_getElem? (i := 213) rfl)) rfl
set_option maxRecDepth 100000 in
theorem ml_7_282 : (Cond.methodLink RX7 282 yX7_dustOf) ∈ x_big := x_mm (x_t5 (List.mem_of_getElem? (i := 214) rfl)) rfl
set_option maxRecDepth 100000 in
theorem mi_7_dustOf : (Cond.instanceMethod yX7_dustOf) ∈ x_big := x_mm (x_t5 (List.mem_of_getElem? (i := 216) rfl)) rfl
set_option maxRecDepth 100000 in
theorem mc_7_dustOf : (Cond.code yX7_dustOf cX7_dustOf 7 (some .int)) ∈ x_big := x_mm (x_t5 (List.mem_of_getElem? (i := 217) rfl)) rfl
set_option maxRecDepth 100000 in
theorem ml_7_278 : (Cond.methodLink RX7 278 yX7_more) ∈ x_big := x_mm (x_t5 (List.mem_of_getElem? (i := 218) rfl)) rfl
set_option maxRecDepth 100000 in
theorem mi_7_more : (Cond.instanceMethod yX7_more) ∈ x_big := x_mm (x_t5 (List.mem_of_getElem? (i := 220) rfl)) rfl
set_option maxRecDepth 100000 in
theorem mc_7_more : (Cond.code yX7_more cX7_more 4 none) ∈ x_big := x_mm (x_t5 (List.mem_of_getElem? (i := 221) rfl)) rfl
set_option maxRecDepth 100000 in
theorem ml_L_96 : (Cond.methodLink RL 96 yX7_boy) ∈ x_big := x_mm (x_t5 (List.mem_of_getElem? (i := 222) rfl)) rfl
set_option maxRecDepth 100000 in
theorem mi_7_boy : (Cond.instanceMethod yX7_boy) ∈ x_big := x_mm (x_t5 (List.mem_of_getElem? (i := 223) rfl)) rfl
set_option maxRecDepth 100000 in
theorem mv_7_boy : (Cond.selects RX7 yX7_boy yX7_boy) ∈ x_big := x_mm (x_t5 (List.mem_of_getElem? (i := 224) rfl)) rfl
set_option maxRecDepth 100000 in
theorem mc_7_boy : (Cond.code yX7_boy cX7_boy 2 (some .int)) ∈ x_big := x_mm (x_t5 (List.mem_of_getElem? (i := 225) rfl)) rfl
set_option maxRecDepth 100000 in
theorem ml_7_285 : (Cond.methodLink RX7 285 yX7_boyOf) ∈ x_big := x_mm (x_t5 (List.mem_of_getElem? (i := 226) rfl)) rfl
set_option maxRecDepth 100000 in
theorem mi_7_boyOf : (Cond.instanceMethod yX7_boyOf) ∈ x_big := x_mm (x_t5 (List.mem_of_getElem? (i := 228) rfl)) rfl
set_option maxRecDepth 100000 in
theorem mc_7_boyOf : (Cond.code yX7_boyOf cX7_boyOf 6 (some .int)) ∈ x_big := x_mm (x_t5 (List.mem_of_getElem? (i := 229) rfl)) rfl
set_option maxRecDepth 100000 in
theorem ml_L_100 : (Cond.methodLink RL 100 yX7_calm) ∈ x_big := x_mm (x_t5 (List.mem_of_getElem? (i := 230) rfl)) rfl
set_option maxRecDepth 100000 in
theorem mi_7_calm : (Cond.instanceMethod yX7_calm) ∈ x_big := x_mm (x_t5 (List.mem_of_getElem? (i := 231) rfl)) rfl
set_option maxRecDepth 100000 in
theorem mv_7_calm : (Cond.selects RX7 yX7_calm yX7_calm) ∈ x_big := x_mm (x_t5 (List.mem_of_getElem? (i := 232) rfl)) rfl
set_option maxRecDepth 100000 in
theorem mc_7_calm : (Cond.code yX7_calm cX7_calm 2 (some .int)) ∈ x_big := x_mm (x_t5 (List.mem_of_getElem? (i := 233) rfl)) rfl
set_option maxRecDepth 100000 in
theorem ml_7_291 : (Cond.methodLink RX7 291 yX7_calmBy) ∈ x_big := x_mm (x_t5 (List.mem_of_getElem? (i := 234) rfl)) rfl
set_option maxRecDepth 100000 in
theorem mi_7_calmBy : (Cond.instanceMethod yX7_calmBy) ∈ x_big := x_mm (x_t5 (List.mem_of_getElem? (i := 236) rfl)) rfl
set_option maxRecDepth 100000 in
theorem mc_7_calmBy : (Cond.code yX7_calmBy cX7_calmBy 3 (some .int)) ∈ x_big := x_mm (x_t5 (List.mem_of_getElem? (i := 237) rfl)) rfl
set_option maxRecDepth 100000 in
theorem ml_7_288 : (Cond.methodLink RX7 288 yX7_isCalm) ∈ x_big := x_mm (x_t5 (List.mem_of_getElem? (i := 238) rfl)) rfl
set_option maxRecDepth 100000 in
theorem mi_7_isCalm : (Cond.instanceMethod yX7_isCalm) ∈ x_big := x_mm (x_t6 (List.mem_of_getElem? (i := 0) rfl)) rfl
set_option maxRecDepth 100000 in
theorem mc_7_isCalm : (Cond.code yX7_isCalm cX7_isCalm 2 (some .boolean)) ∈ x_big := x_mm (x_t6 (List.mem_of_getElem? (i := 1) rfl)) rfl
set_option maxRecDepth 100000 in
theorem ml_7_294 : (Cond.methodLink RX7 294 yX7_ofRow) ∈ x_big := x_mm (x_t6 (List.mem_of_getElem? (i := 2) rfl)) rfl
set_option maxRecDepth 100000 in
theorem mi_7_ofRow : (Cond.instanceMethod yX7_ofRow) ∈ x_big := x_mm (x_t6 (List.mem_of_getElem? (i := 4) rfl)) rfl
set_option maxRecDepth 100000 in
theorem mc_7_ofRow : (Cond.code yX7_ofRow cX7_ofRow 3 (some .int)) ∈ x_big := x_mm (x_t6 (List.mem_of_getElem? (i := 5) rfl)) rfl
set_option maxRecDepth 100000 in
theorem ml_L_104 : (Cond.methodLink RL 104 yX7_seen) ∈ x_big := x_mm (x_t6 (List.mem_of_getElem? (i := 6) rfl)) rfl
set_option maxRecDepth 100000 in
theorem mi_7_seen : (Cond.instanceMethod yX7_seen) ∈ x_big := x_mm (x_t6 (List.mem_of_getElem? (i := 7) rfl)) rfl
set_option maxRecDepth 100000 in
theorem mv_7_seen : (Cond.selects RX7 yX7_seen yX7_seen) ∈ x_big := x_mm (x_t6 (List.mem_of_getElem? (i := 8) rfl)) rfl
set_option maxRecDepth 100000 in
theorem mc_7_seen : (Cond.code yX7_seen cX7_seen 4 (some .int)) ∈ x_big := x_mm (x_t6 (List.mem_of_getElem? (i := 9) rfl)) rfl
set_option maxRecDepth 100000 in
theorem ml_L_108 : (Cond.methodLink RL 108 yX7_forget) ∈ x_big := x_mm (x_t6 (List.mem_of_getElem? (i := 10) rfl)) rfl
set_option maxRecDepth 100000 in
theorem mi_7_forget : (Cond.instanceMethod yX7_forget) ∈ x_big := x_mm (x_t6 (List.mem_of_getElem? (i := 11) rfl)) rfl
set_option maxRecDepth 100000 in
theorem mv_7_forget : (Cond.selects RX7 yX7_forget yX7_forget) ∈ x_big := x_mm (x_t6 (List.mem_of_getElem? (i := 12) rfl)) rfl
set_option maxRecDepth 100000 in
theorem mc_7_forget : (Cond.code yX7_forget cX7_forget 2 (some .int)) ∈ x_big := x_mm (x_t6 (List.mem_of_getElem? (i := 13) rfl)) rfl
set_option maxRecDepth 100000 in
theorem ml_L_112 : (Cond.methodLink RL 112 yX7_never) ∈ x_big := x_mm (x_t6 (List.mem_of_getElem? (i := 14) rfl)) rfl
set_option maxRecDepth 100000 in
theorem mi_7_never : (Cond.instanceMethod yX7_never) ∈ x_big := x_mm (x_t6 (List.mem_of_getElem? (i := 15) rfl)) rfl
set_option maxRecDepth 100000 in
theorem mv_7_never : (Cond.selects RX7 yX7_never yX7_never) ∈ x_big := x_mm (x_t6 (List.mem_of_getElem? (i := 16) rfl)) rfl
set_option maxRecDepth 100000 in
theorem mc_7_never : (Cond.code yX7_never cX7_never 1 (some .int)) ∈ x_big := x_mm (x_t6 (List.mem_of_getElem? (i := 17) rfl)) rfl
set_option maxRecDepth 100000 in
theorem ml_7_304 : (Cond.methodLink RX7 304 yX7_neverNow) ∈ x_big := x_mm (x_t6 (List.mem_of_getElem? (i := 18) rfl)) rfl
set_option maxRecDepth 100000 in
theorem mi_7_neverNow : (Cond.instanceMethod yX7_neverNow) ∈ x_big := x_mm (x_t6 (List.mem_of_getElem? (i := 20) rfl)) rfl
set_option maxRecDepth 100000 in
theorem mc_7_neverNow : (Cond.code yX7_neverNow cX7_neverNow 3 (some .int)) ∈ x_big := x_mm (x_t6 (List.mem_of_getElem? (i := 21) rfl)) rfl
set_option maxRecDepth 100000 in
theorem ml_7_300 : (Cond.methodLink RX7 300 yX7_isSeen) ∈ x_big := x_mm (x_t6 (List.mem_of_getElem? (i := 22) rfl)) rfl
set_option maxRecDepth 100000 in
theorem mi_7_isSeen : (Cond.instanceMethod yX7_isSeen) ∈ x_big := x_mm (x_t6 (List.mem_of_getElem? (i := 24) rfl)) rfl
set_option maxRecDepth 100000 in
theorem mc_7_isSeen : (Cond.code yX7_isSeen cX7_isSeen 3 (some .boolean)) ∈ x_big := x_mm (x_t6 (List.mem_of_getElem? (i := 25) rfl)) rfl
set_option maxRecDepth 100000 in
theorem ml_L_116 : (Cond.methodLink RL 116 yX7_sort) ∈ x_big := x_mm (x_t6 (List.mem_of_getElem? (i := 26) rfl)) rfl
set_option maxRecDepth 100000 in
theorem mi_7_sort : (Cond.instanceMethod yX7_sort) ∈ x_big := x_mm (x_t6 (List.mem_of_getElem? (i := 27) rfl)) rfl
set_option maxRecDepth 100000 in
theorem mv_7_sort : (Cond.selects RX7 yX7_sort yX7_sort) ∈ x_big := x_mm (x_t6 (List.mem_of_getElem? (i := 28) rfl)) rfl
set_option maxRecDepth 100000 in
theorem mc_7_sort : (Cond.code yX7_sort cX7_sort 2 (some .int)) ∈ x_big := x_mm (x_t6 (List.mem_of_getElem? (i := 29) rfl)) rfl
set_option maxRecDepth 100000 in
theorem ml_7_307 : (Cond.methodLink RX7 307 yX7_sortsBy) ∈ x_big := x_mm (x_t6 (List.mem_of_getElem? (i := 30) rfl)) rfl
set_option maxRecDepth 100000 in
theorem mi_7_sortsBy : (Cond.instanceMethod yX7_sortsBy) ∈ x_big := x_mm (x_t6 (List.mem_of_getElem? (i := 32) rfl)) rfl
set_option maxRecDepth 100000 in
theorem mc_7_sortsBy : (Cond.code yX7_sortsBy cX7_sortsBy 5 (some .int)) ∈ x_big := x_mm (x_t6 (List.mem_of_getElem? (i := 33) rfl)) rfl
set_option maxRecDepth 100000 in
theorem ml_L_120 : (Cond.methodLink RL 120 yX7_wet) ∈ x_big := x_mm (x_t6 (List.mem_of_getElem? (i := 34) rfl)) rfl
set_option maxRecDepth 100000 in
theorem mi_7_wet : (Cond.instanceMethod yX7_wet) ∈ x_big := x_mm (x_t6 (List.mem_of_getElem? (i := 35) rfl)) rfl
set_option maxRecDepth 100000 in
theorem mv_7_wet : (Cond.selects RX7 yX7_wet yX7_wet) ∈ x_big := x_mm (x_t6 (List.mem_of_getElem? (i := 36) rfl)) rfl
set_option maxRecDepth 100000 in
theorem mc_7_wet : (Cond.code yX7_wet cX7_wet 2 (some .int)) ∈ x_big := x_mm (x_t6 (List.mem_of_getElem? (i := 37) rfl)) rfl
set_option maxRecDepth 100000 in
theorem ml_7_310 : (Cond.methodLink RX7 310 yX7_wetBy) ∈ x_big := x_mm (x_t6 (List.mem_of_getElem? (i := 38) rfl)) rfl
set_option maxRecDepth 100000 in
theorem mi_7_wetBy : (Cond.instanceMethod yX7_wetBy) ∈ x_big := x_mm (x_t6 (List.mem_of_getElem? (i := 40) rfl)) rfl
set_option maxRecDepth 100000 in
theorem mc_7_wetBy : (Cond.code yX7_wetBy cX7_wetBy 6 (some .int)) ∈ x_big := x_mm (x_t6 (List.mem_of_getElem? (i := 41) rfl)) rfl
set_option maxRecDepth 100000 in
theorem ml_L_124 : (Cond.methodLink RL 124 yX7_ask) ∈ x_big := x_mm (x_t6 (List.mem_of_getElem? (i := 42) rfl)) rfl
set_option maxRecDepth 100000 in
theorem mi_7_ask : (Cond.instanceMethod yX7_ask) ∈ x_big := x_mm (x_t6 (List.mem_of_getElem? (i := 43) rfl)) rfl
set_option maxRecDepth 100000 in
theorem mv_7_ask : (Cond.selects RX7 yX7_ask yX7_ask) ∈ x_big := x_mm (x_t6 (List.mem_of_getElem? (i := 44) rfl)) rfl
set_option maxRecDepth 100000 in
theorem mc_7_ask : (Cond.code yX7_ask cX7_ask 2 (some .int)) ∈ x_big := x_mm (x_t6 (List.mem_of_getElem? (i := 45) rfl)) rfl
set_option maxRecDepth 100000 in
theorem ml_7_313 : (Cond.methodLink RX7 313 yX7_askOf) ∈ x_big := x_mm (x_t6 (List.mem_of_getElem? (i := 46) rfl)) rfl
set_option maxRecDepth 100000 in
theorem mi_7_askOf : (Cond.instanceMethod yX7_askOf) ∈ x_big := x_mm (x_t6 (List.mem_of_getElem? (i := 48) rfl)) rfl
set_option maxRecDepth 100000 in
theorem mc_7_askOf : (Cond.code yX7_askOf cX7_askOf 10 (some .int)) ∈ x_big := x_mm (x_t6 (List.mem_of_getElem? (i := 49) rfl)) rfl
set_option maxRecDepth 100000 in
theorem ml_L_129 : (Cond.methodLink RL 129 yX7_chance) ∈ x_big := x_mm (x_t6 (List.mem_of_getElem? (i := 50) rfl)) rfl
set_option maxRecDepth 100000 in
theorem mi_7_chance : (Cond.instanceMethod yX7_chance) ∈ x_big := x_mm (x_t6 (List.mem_of_getElem? (i := 51) rfl)) rfl
set_option maxRecDepth 100000 in
theorem mv_7_chance : (Cond.selects RX7 yX7_chance yX7_chance) ∈ x_big := x_mm (x_t6 (List.mem_of_getElem? (i := 52) rfl)) rfl
set_option maxRecDepth 100000 in
theorem mc_7_chance : (Cond.code yX7_chance cX7_chance 4 (some .long)) ∈ x_big := x_mm (x_t6 (List.mem_of_getElem? (i := 53) rfl)) rfl
set_option maxRecDepth 100000 in
theorem ml_7_320 : (Cond.methodLink RX7 320 yX7_chanceOf) ∈ x_big := x_mm (x_t6 (List.mem_of_getElem? (i := 54) rfl)) rfl
set_option maxRecDepth 100000 in
theorem mi_7_chanceOf : (Cond.instanceMethod yX7_chanceOf) ∈ x_big := x_mm (x_t6 (List.mem_of_getElem? (i := 56) rfl)) rfl
set_option maxRecDepth 100000 in
theorem mc_7_chanceOf : (Cond.code yX7_chanceOf cX7_chanceOf 10 (some .long)) ∈ x_big := x_mm (x_t6 (List.mem_of_getElem? (i := 57) rfl)) rfl
set_option maxRecDepth 100000 in
theorem ml_7_316 : (Cond.methodLink RX7 316 yX7_lowest) ∈ x_big := x_mm (x_t6 (List.mem_of_getElem? (i := 58) rfl)) rfl
set_option maxRecDepth 100000 in
theorem ms_7_lowest : (Cond.static yX7_lowest) ∈ x_big := x_mm (x_t6 (List.mem_of_getElem? (i := 59) rfl)) rfl
set_option maxRecDepth 100000 in
theorem mc_7_lowest : (Cond.code yX7_lowest cX7_lowest 11 (some .long)) ∈ x_big := x_mm (x_t6 (List.mem_of_getElem? (i := 60) rfl)) rfl
set_option maxRecDepth 100000 in
theorem ml_7_324 : (Cond.methodLink RX7 324 yX7_no) ∈ x_big := x_mm (x_t6 (List.mem_of_getElem? (i := 61) rfl)) rfl
set_option maxRecDepth 100000 in
theorem ms_7_no : (Cond.static yX7_no) ∈ x_big := x_mm (x_t6 (List.mem_of_getElem? (i := 62) rfl)) rfl
set_option maxRecDepth 100000 in
theorem mc_7_no : (Cond.code yX7_no cX7_no 1 (some .long)) ∈ x_big := x_mm (x_t6 (List.mem_of_getElem? (i := 63) rfl)) rfl
set_option maxRecDepth 100000 in
theorem mkl_7_113 : (Cond.constantLong RX7 113 (-9223372036854775808)) ∈ x_big := x_mm (x_t6 (List.mem_of_getElem? (i := 64) rfl)) rfl
set_option maxRecDepth 100000 in
theorem ml_L_133 : (Cond.methodLink RL 133 yX7_ages) ∈ x_big := x_mm (x_t6 (List.mem_of_getElem? (i := 65) rfl)) rfl
set_option maxRecDepth 100000 in
theorem mi_7_ages : (Cond.instanceMethod yX7_ages) ∈ x_big := x_mm (x_t6 (List.mem_of_getElem? (i := 66) rfl)) rfl
set_option maxRecDepth 100000 in
theorem mv_7_ages : (Cond.selects RX7 yX7_ages yX7_ages) ∈ x_big := x_mm (x_t6 (List.mem_of_getElem? (i := 67) rfl)) rfl
set_option maxRecDepth 100000 in
theorem mc_7_ages : (Cond.code yX7_ages cX7_ages 4 (some .int)) ∈ x_big := x_mm (x_t6 (List.mem_of_getElem? (i := 68) rfl)) rfl
set_option maxRecDepth 100000 in
theorem ml_7_329 : (Cond.methodLink RX7 329 yX7_agesOf) ∈ x_big := x_mm (x_t6 (List.mem_of_getElem? (i := 69) rfl)) rfl
set_option maxRecDepth 100000 in
theorem mi_7_agesOf : (Cond.instanceMethod yX7_agesOf) ∈ x_big := x_mm (x_t6 (List.mem_of_getElem? (i := 71) rfl)) rfl
set_option maxRecDepth 100000 in
theorem mc_7_agesOf : (Cond.code yX7_agesOf cX7_agesOf 6 (some .int)) ∈ x_big := x_mm (x_t6 (List.mem_of_getElem? (i := 72) rfl)) rfl
set_option maxRecDepth 100000 in
theorem mk_7_328 : (Cond.constant RX7 328 (1103515245)) ∈ x_big := x_mm (x_t6 (List.mem_of_getElem? (i := 73) rfl)) rfl
set_option maxRecDepth 100000 in
theorem ml_L_137 : (Cond.methodLink RL 137 yX7_sheet) ∈ x_big := x_mm (x_t6 (List.mem_of_getElem? (i := 74) rfl)) rfl
set_option maxRecDepth 100000 in
theorem mi_7_sheet : (Cond.instanceMethod yX7_sheet) ∈ x_big := x_mm (x_t6 (List.mem_of_getElem? (i := 75) rfl)) rfl
set_option maxRecDepth 100000 in
theorem mv_7_sheet : (Cond.selects RX7 yX7_sheet yX7_sheet) ∈ x_big := x_mm (x_t6 (List.mem_of_getElem? (i := 76) rfl)) rfl
set_option maxRecDepth 100000 in
theorem mc_7_sheet : (Cond.code yX7_sheet cX7_sheet 5 (some .int)) ∈ x_big := x_mm (x_t6 (List.mem_of_getElem? (i := 77) rfl)) rfl
set_option maxRecDepth 100000 in
theorem ml_L_141 : (Cond.methodLink RL 141 yX7_lose) ∈ x_big := x_mm (x_t6 (List.mem_of_getElem? (i := 78) rfl)) rfl
set_option maxRecDepth 100000 in
theorem mi_7_lose : (Cond.instanceMethod yX7_lose) ∈ x_big := x_mm (x_t6 (List.mem_of_getElem? (i := 79) rfl)) rfl
set_option maxRecDepth 100000 in
theorem mv_7_lose : (Cond.selects RX7 yX7_lose yX7_lose) ∈ x_big := x_mm (x_t6 (List.mem_of_getElem? (i := 80) rfl)) rfl
set_option maxRecDepth 100000 in
theorem mc_7_lose : (Cond.code yX7_lose cX7_lose 2 (some .int)) ∈ x_big := x_mm (x_t6 (List.mem_of_getElem? (i := 81) rfl)) rfl
set_option maxRecDepth 100000 in
theorem ml_L_146 : (Cond.methodLink RL 146 yX7_put) ∈ x_big := x_mm (x_t6 (List.mem_of_getElem? (i := 82) rfl)) rfl
set_option maxRecDepth 100000 in
theorem mi_7_put : (Cond.instanceMethod yX7_put) ∈ x_big := x_mm (x_t6 (List.mem_of_getElem? (i := 83) rfl)) rfl
set_option maxRecDepth 100000 in
theorem mv_7_put : (Cond.selects RX7 yX7_put yX7_put) ∈ x_big := x_mm (x_t6 (List.mem_of_getElem? (i := 84) rfl)) rfl
set_option maxRecDepth 100000 in
theorem mc_7_put : (Cond.code yX7_put cX7_put 6 (some .int)) ∈ x_big := x_mm (x_t6 (List.mem_of_getElem? (i := 85) rfl)) rfl
set_option maxRecDepth 100000 in
theorem ml_7_335 : (Cond.methodLink RX7 335 yX7_lacks) ∈ x_big := x_mm (x_t6 (List.mem_of_getElem? (i := 86) rfl)) rfl
set_option maxRecDepth 100000 in
theorem mi_7_lacks : (Cond.instanceMethod yX7_lacks) ∈ x_big := x_mm (x_t6 (List.mem_of_getElem? (i := 88) rfl)) rfl
set_option maxRecDepth 100000 in
theorem mc_7_lacks : (Cond.code yX7_lacks cX7_lacks 4 (some .int)) ∈ x_big := x_mm (x_t6 (List.mem_of_getElem? (i := 89) rfl)) rfl
set_option maxRecDepth 100000 in
theorem ml_7_338 : (Cond.methodLink RX7 338 yX7_keep) ∈ x_big := x_mm (x_t6 (List.mem_of_getElem? (i := 90) rfl)) rfl
set_option maxRecDepth 100000 in
theorem mi_7_keep : (Cond.instanceMethod yX7_keep) ∈ x_big := x_mm (x_t6 (List.mem_of_getElem? (i := 92) rfl)) rfl
set_option maxRecDepth 100000 in
theorem mc_7_keep : (Cond.code yX7_keep cX7_keep 4 none) ∈ x_big := x_mm (x_t6 (List.mem_of_getElem? (i := 93) rfl)) rfl
set_option maxRecDepth 100000 in
theorem ml_L_150 : (Cond.methodLink RL 150 yX7_get) ∈ x_big := x_mm (x_t6 (List.mem_of_getElem? (i := 94) rfl)) rfl
set_option maxRecDepth 100000 in
theorem mi_7_get : (Cond.instanceMethod yX7_get) ∈ x_big := x_mm (x_t6 (List.mem_of_getElem? (i := 95) rfl)) rfl
set_option maxRecDepth 100000 in
theorem mv_7_get : (Cond.selects RX7 yX7_get yX7_get) ∈ x_big := x_mm (x_t6 (List.mem_of_getElem? (i := 96) rfl)) rfl
set_option maxRecDepth 100000 in
theorem mc_7_get : (Cond.code yX7_get cX7_get 5 (some .int)) ∈ x_big := x_mm (x_t6 (List.mem_of_getElem? (i := 97) rfl)) rfl
set_option maxRecDepth 100000 in
theorem mk_7_341 : (Cond.constant RX7 341 (-2147483648)) ∈ x_big := x_mm (x_t6 (List.mem_of_getElem? (i := 98) rfl)) rfl
set_option maxRecDepth 100000 in
theorem ml_L_155 : (Cond.methodLink RL 155 yX7_copy) ∈ x_big := x_mm (x_t6 (List.mem_of_getElem? (i := 99) rfl)) rfl
set_option maxRecDepth 100000 in
theorem mi_7_copy : (Cond.instanceMethod yX7_copy) ∈ x_big := x_mm (x_t6 (List.mem_of_getElem? (i := 100) rfl)) rfl
set_option maxRecDepth 100000 in
theorem mv_7_copy : (Cond.selects RX7 yX7_copy yX7_copy) ∈ x_big := x_mm (x_t6 (List.mem_of_getElem? (i := 101) rfl)) rfl
set_option maxRecDepth 100000 in
theorem mc_7_copy : (Cond.code yX7_copy cX7_copy 7 (some .int)) ∈ x_big := x_mm (x_t6 (List.mem_of_getElem? (i := 102) rfl)) rfl
set_option maxRecDepth 100000 in
theorem ml_L_159 : (Cond.methodLink RL 159 yX7_write) ∈ x_big := x_mm (x_t6 (List.mem_of_getElem? (i := 103) rfl)) rfl
set_option maxRecDepth 100000 in
theorem mi_7_write : (Cond.instanceMethod yX7_write) ∈ x_big := x_mm (x_t6 (List.mem_of_getElem? (i := 104) rfl)) rfl
set_option maxRecDepth 100000 in
theorem mv_7_write : (Cond.selects RX7 yX7_write yX7_write) ∈ x_big := x_mm (x_t6 (List.mem_of_getElem? (i := 105) rfl)) rfl
set_option maxRecDepth 100000 in
theorem mc_7_write : (Cond.code yX7_write cX7_write 4 (some .int)) ∈ x_big := x_mm (x_t6 (List.mem_of_getElem? (i := 106) rfl)) rfl
set_option maxRecDepth 100000 in
theorem ml_L_163 : (Cond.methodLink RL 163 yX7_count) ∈ x_big := x_mm (x_t6 (List.mem_of_getElem? (i := 107) rfl)) rfl
set_option maxRecDepth 100000 in
theorem mi_7_count : (Cond.instanceMethod yX7_count) ∈ x_big := x_mm (x_t6 (List.mem_of_getElem? (i := 108) rfl)) rfl
set_option maxRecDepth 100000 in
theorem mv_7_count : (Cond.selects RX7 yX7_count yX7_count) ∈ x_big := x_mm (x_t6 (List.mem_of_getElem? (i := 109) rfl)) rfl
set_option maxRecDepth 100000 in
theorem mc_7_count : (Cond.code yX7_count cX7_count 2 (some .int)) ∈ x_big := x_mm (x_t6 (List.mem_of_getElem? (i := 110) rfl)) rfl
set_option maxRecDepth 100000 in
theorem ml_7_342 : (Cond.methodLink RX7 342 yX7_sumOf) ∈ x_big := x_mm (x_t6 (List.mem_of_getElem? (i := 111) rfl)) rfl
set_option maxRecDepth 100000 in
theorem mi_7_sumOf : (Cond.instanceMethod yX7_sumOf) ∈ x_big := x_mm (x_t6 (List.mem_of_getElem? (i := 113) rfl)) rfl
set_option maxRecDepth 100000 in
theorem mc_7_sumOf : (Cond.code yX7_sumOf cX7_sumOf 5 (some .int)) ∈ x_big := x_mm (x_t6 (List.mem_of_getElem? (i := 114) rfl)) rfl
set_option maxRecDepth 100000 in
theorem ml_L_168 : (Cond.methodLink RL 168 yX7_digest) ∈ x_big := x_mm (x_t6 (List.mem_of_getElem? (i := 115) rfl)) rfl
set_option maxRecDepth 100000 in
theorem mi_7_digest : (Cond.instanceMethod yX7_digest) ∈ x_big := x_mm (x_t6 (List.mem_of_getElem? (i := 116) rfl)) rfl
set_option maxRecDepth 100000 in
theorem mv_7_digest : (Cond.selects RX7 yX7_digest yX7_digest) ∈ x_big := x_mm (x_t6 (List.mem_of_getElem? (i := 117) rfl)) rfl
set_option maxRecDepth 100000 in
theorem mc_7_digest : (Cond.code yX7_digest cX7_digest 5 (some .long)) ∈ x_big := x_mm (x_t6 (List.mem_of_getElem? (i := 118) rfl)) rfl
set_option maxRecDepth 100000 in
theorem mkl_7_351 : (Cond.constantLong RX7 351 (17)) ∈ x_big := x_mm (x_t6 (List.mem_of_getElem? (i := 119) rfl)) rfl
set_option maxRecDepth 100000 in
theorem mkl_7_345 : (Cond.constantLong RX7 345 (31)) ∈ x_big := x_mm (x_t6 (List.mem_of_getElem? (i := 120) rfl)) rfl
set_option maxRecDepth 100000 in
theorem ml_7_353 : (Cond.methodLink RX7 353 yX7_count) ∈ x_big := x_mm (x_t6 (List.mem_of_getElem? (i := 121) rfl)) rfl
set_option maxRecDepth 100000 in
theorem ml_7_356 : (Cond.methodLink RX7 356 yX7_placeDigest) ∈ x_big := x_mm (x_t6 (List.mem_of_getElem? (i := 122) rfl)) rfl
set_option maxRecDepth 100000 in
theorem mi_7_placeDigest : (Cond.instanceMethod yX7_placeDigest) ∈ x_big := x_mm (x_t6 (List.mem_of_getElem? (i := 124) rfl)) rfl
set_option maxRecDepth 100000 in
theorem mc_7_placeDigest : (Cond.code yX7_placeDigest cX7_placeDigest 6 (some .long)) ∈ x_big := x_mm (x_t6 (List.mem_of_getElem? (i := 125) rfl)) rfl
set_option maxRecDepth 100000 in
theorem ml_7_360 : (Cond.methodLink RX7 360 yX7_memberDigest) ∈ x_big := x_mm (x_t6 (List.mem_of_getElem? (i := 126) rfl)) rfl
set_option maxRecDepth 100000 in
theorem mi_7_memberDigest : (Cond.instanceMethod yX7_memberDigest) ∈ x_big := x_mm (x_t6 (List.mem_of_getElem? (i := 128) rfl)) rfl
set_option maxRecDepth 100000 in
theorem mc_7_memberDigest : (Cond.code yX7_memberDigest cX7_memberDigest 7 (some .long)) ∈ x_big := x_mm (x_t6 (List.mem_of_getElem? (i := 129) rfl)) rfl
set_option maxRecDepth 100000 in
theorem ml_7_347 : (Cond.methodLink RX7 347 yX7_hourDigest) ∈ x_big := x_mm (x_t6 (List.mem_of_getElem? (i := 130) rfl)) rfl
set_option maxRecDepth 100000 in
theorem mi_7_hourDigest : (Cond.instanceMethod yX7_hourDigest) ∈ x_big := x_mm (x_t6 (List.mem_of_getElem? (i := 132) rfl)) rfl
set_option maxRecDepth 100000 in
theorem mc_7_hourDigest : (Cond.code yX7_hourDigest cX7_hourDigest 8 (some .long)) ∈ x_big := x_mm (x_t6 (List.mem_of_getElem? (i := 133) rfl)) rfl
set_option maxRecDepth 100000 in
theorem mv_6_readStone : (Cond.selects RX6 yX6_readStone yX6_readStone) ∈ x_big := x_mm (List.mem_append_left _ (List.mem_of_getElem? (i := 0) rfl)) rfl
set_option maxRecDepth 100000 in
theorem mv_6_faultOfStone : (Cond.selects RX6 yX6_faultOfStone yX6_faultOfStone) ∈ x_big := x_mm (List.mem_append_left _ (List.mem_of_getElem? (i := 1) rfl)) rfl
set_option maxRecDepth 100000 in
theorem mv_6_textOf : (Cond.selects RX6 yX6_textOf yX6_textOf) ∈ x_big := x_mm (List.mem_append_left _ (List.mem_of_getElem? (i := 2) rfl)) rfl
set_option maxRecDepth 100000 in
theorem mv_6_readTexts : (Cond.selects RX6 yX6_readTexts yX6_readTexts) ∈ x_big := x_mm (List.mem_append_left _ (List.mem_of_getElem? (i := 3) rfl)) rfl
set_option maxRecDepth 100000 in
theorem mv_6_readMembers : (Cond.selects RX6 yX6_readMembers yX6_readMembers) ∈ x_big := x_mm (List.mem_append_left _ (List.mem_of_getElem? (i := 4) rfl)) rfl
set_option maxRecDepth 100000 in
theorem mv_6_faultOfMembers : (Cond.selects RX6 yX6_faultOfMembers yX6_faultOfMembers) ∈ x_big := x_mm (List.mem_append_left _ (List.mem_of_getElem? (i := 5) rfl)) rfl
set_option maxRecDepth 100000 in
theorem mv_6_sheetOf : (Cond.selects RX6 yX6_sheetOf yX6_sheetOf) ∈ x_big := x_mm (List.mem_append_left _ (List.mem_of_getElem? (i := 6) rfl)) rfl
set_option maxRecDepth 100000 in
theorem mv_6_finding : (Cond.selects RX6 yX6_finding yX6_finding) ∈ x_big := x_mm (List.mem_append_left _ (List.mem_of_getElem? (i := 7) rfl)) rfl
set_option maxRecDepth 100000 in
theorem mv_6_chamberAsTold : (Cond.selects RX6 yX6_chamberAsTold yX6_chamberAsTold) ∈ x_big := x_mm (List.mem_append_left _ (List.mem_of_getElem? (i := 8) rfl)) rfl
set_option maxRecDepth 100000 in
theorem mv_2_begin : (Cond.selects RX2 yX2_begin yX2_begin) ∈ x_big := x_mm (List.mem_append_left _ (List.mem_of_getElem? (i := 9) rfl)) rfl
set_option maxRecDepth 100000 in
theorem mv_2_doEvents : (Cond.selects RX2 yX2_doEvents yX2_doEvents) ∈ x_big := x_mm (List.mem_append_left _ (List.mem_of_getElem? (i := 10) rfl)) rfl
set_option maxRecDepth 100000 in
theorem mv_2_lift : (Cond.selects RX2 yX2_lift yX2_lift) ∈ x_big := x_mm (List.mem_append_left _ (List.mem_of_getElem? (i := 11) rfl)) rfl
set_option maxRecDepth 100000 in
theorem mv_2_pepper : (Cond.selects RX2 yX2_pepper yX2_pepper) ∈ x_big := x_mm (List.mem_append_left _ (List.mem_of_getElem? (i := 12) rfl)) rfl
set_option maxRecDepth 100000 in
theorem mv_2_wetAll : (Cond.selects RX2 yX2_wetAll yX2_wetAll) ∈ x_big := x_mm (List.mem_append_left _ (List.mem_of_getElem? (i := 13) rfl)) rfl
set_option maxRecDepth 100000 in
theorem mv_2_letMembersGo : (Cond.selects RX2 yX2_letMembersGo yX2_letMembersGo) ∈ x_big := x_mm (List.mem_append_left _ (List.mem_of_getElem? (i := 14) rfl)) rfl
set_option maxRecDepth 100000 in
theorem mv_2_step : (Cond.selects RX2 yX2_step yX2_step) ∈ x_big := x_mm (List.mem_append_left _ (List.mem_of_getElem? (i := 15) rfl)) rfl
set_option maxRecDepth 100000 in
theorem mv_2_passOver : (Cond.selects RX2 yX2_passOver yX2_passOver) ∈ x_big := x_mm (List.mem_append_left _ (List.mem_of_getElem? (i := 16) rfl)) rfl
set_option maxRecDepth 100000 in
theorem mv_2_countHeads : (Cond.selects RX2 yX2_countHeads yX2_countHeads) ∈ x_big := x_mm (List.mem_append_left _ (List.mem_of_getElem? (i := 17) rfl)) rfl
set_option maxRecDepth 100000 in
theorem mv_2_dryCrowdedPlaces : (Cond.selects RX2 yX2_dryCrowdedPlaces yX2_dryCrowdedPlaces) ∈ x_big := x_mm (List.mem_append_left _ (List.mem_of_getElem? (i := 18) rfl)) rfl
set_option maxRecDepth 100000 in
theorem mv_2_divide : (Cond.selects RX2 yX2_divide yX2_divide) ∈ x_big := x_mm (List.mem_append_left _ (List.mem_of_getElem? (i := 19) rfl)) rfl
set_option maxRecDepth 100000 in
theorem mv_2_keepRecord : (Cond.selects RX2 yX2_keepRecord yX2_keepRecord) ∈ x_big := x_mm (List.mem_append_left _ (List.mem_of_getElem? (i := 20) rfl)) rfl
set_option maxRecDepth 100000 in
theorem mv_6_findCrowd : (Cond.selects RX6 yX6_findCrowd yX6_findCrowd) ∈ x_big := x_mm (List.mem_append_left _ (List.mem_of_getElem? (i := 21) rfl)) rfl
set_option maxRecDepth 100000 in
theorem mv_6_findSeat : (Cond.selects RX6 yX6_findSeat yX6_findSeat) ∈ x_big := x_mm (List.mem_append_left _ (List.mem_of_getElem? (i := 22) rfl)) rfl
set_option maxRecDepth 100000 in
theorem mv_6_findDust : (Cond.selects RX6 yX6_findDust yX6_findDust) ∈ x_big := x_mm (List.mem_append_left _ (List.mem_of_getElem? (i := 23) rfl)) rfl
set_option maxRecDepth 100000 in
theorem mv_6_sitWithOneMore : (Cond.selects RX6 yX6_sitWithOneMore yX6_sitWithOneMore) ∈ x_big := x_mm (List.mem_append_left _ (List.mem_of_getElem? (i := 24) rfl)) rfl
set_option maxRecDepth 100000 in
theorem mv_6_findBoy : (Cond.selects RX6 yX6_findBoy yX6_findBoy) ∈ x_big := x_mm (List.mem_append_left _ (List.mem_of_getElem? (i := 25) rfl)) rfl
set_option maxRecDepth 100000 in
theorem mv_6_findCalm : (Cond.selects RX6 yX6_findCalm yX6_findCalm) ∈ x_big := x_mm (List.mem_append_left _ (List.mem_of_getElem? (i := 26) rfl)) rfl
set_option maxRecDepth 100000 in
theorem mv_6_isCalmWithout : (Cond.selects RX6 yX6_isCalmWithout yX6_isCalmWithout) ∈ x_big := x_mm (List.mem_append_left _ (List.mem_of_getElem? (i := 27) rfl)) rfl
set_option maxRecDepth 100000 in
theorem mv_6_setCalm : (Cond.selects RX6 yX6_setCalm yX6_setCalm) ∈ x_big := x_mm (List.mem_append_left _ (List.mem_of_getElem? (i := 28) rfl)) rfl
set_option maxRecDepth 100000 in
theorem mv_6_sortsThatFit : (Cond.selects RX6 yX6_sortsThatFit yX6_sortsThatFit) ∈ x_big := x_mm (List.mem_append_left _ (List.mem_of_getElem? (i := 29) rfl)) rfl
set_option maxRecDepth 100000 in
theorem mv_6_firstsThatFit : (Cond.selects RX6 yX6_firstsThatFit yX6_firstsThatFit) ∈ x_big := x_mm (List.mem_append_left _ (List.mem_of_getElem? (i := 30) rfl)) rfl
set_option maxRecDepth 100000 in
theorem mv_6_hourToAsk : (Cond.selects RX6 yX6_hourToAsk yX6_hourToAsk) ∈ x_big := x_mm (List.mem_append_left _ (List.mem_of_getElem? (i := 31) rfl)) rfl
set_option maxRecDepth 100000 in
theorem mv_6_mostAlike : (Cond.selects RX6 yX6_mostAlike yX6_mostAlike) ∈ x_big := x_mm (List.mem_append_left _ (List.mem_of_getElem? (i := 32) rfl)) rfl
set_option maxRecDepth 100000 in
theorem mv_6_waysCarried : (Cond.selects RX6 yX6_waysCarried yX6_waysCarried) ∈ x_big := x_mm (List.mem_append_left _ (List.mem_of_getElem? (i := 33) rfl)) rfl
set_option maxRecDepth 100000 in
theorem mv_6_waysOf : (Cond.selects RX6 yX6_waysOf yX6_waysOf) ∈ x_big := x_mm (List.mem_append_left _ (List.mem_of_getElem? (i := 34) rfl)) rfl
set_option maxRecDepth 100000 in
theorem mv_6_sitAges : (Cond.selects RX6 yX6_sitAges yX6_sitAges) ∈ x_big := x_mm (List.mem_append_left _ (List.mem_of_getElem? (i := 35) rfl)) rfl
set_option maxRecDepth 100000 in
theorem mv_6_itemRefusal : (Cond.selects RX6 yX6_itemRefusal yX6_itemRefusal) ∈ x_big := x_mm (List.mem_append_left _ (List.mem_of_getElem? (i := 36) rfl)) rfl
set_option maxRecDepth 100000 in
theorem mv_6_digestOfPlaces : (Cond.selects RX6 yX6_digestOfPlaces yX6_digestOfPlaces) ∈ x_big := x_mm (List.mem_append_left _ (List.mem_of_getElem? (i := 37) rfl)) rfl
set_option maxRecDepth 100000 in
theorem mv_6_digestOfMembers : (Cond.selects RX6 yX6_digestOfMembers yX6_digestOfMembers) ∈ x_big := x_mm (List.mem_append_left _ (List.mem_of_getElem? (i := 38) rfl)) rfl
set_option maxRecDepth 100000 in
theorem mv_6_digestOfHours : (Cond.selects RX6 yX6_digestOfHours yX6_digestOfHours) ∈ x_big := x_mm (List.mem_append_left _ (List.mem_of_getElem? (i := 39) rfl)) rfl
set_option maxRecDepth 100000 in
theorem mv_6_digestOfPlans : (Cond.selects RX6 yX6_digestOfPlans yX6_digestOfPlans) ∈ x_big := x_mm (List.mem_append_left _ (List.mem_of_getElem? (i := 40) rfl)) rfl
set_option maxRecDepth 100000 in
theorem mv_7_faultOf : (Cond.selects RX7 yX7_faultOf yX7_faultOf) ∈ x_big := x_mm (List.mem_append_left _ (List.mem_of_getElem? (i := 41) rfl)) rfl
set_option maxRecDepth 100000 in
theorem mv_7_readsStone : (Cond.selects RX7 yX7_readsStone yX7_readsStone) ∈ x_big := x_mm (List.mem_append_left _ (List.mem_of_getElem? (i := 42) rfl)) rfl
set_option maxRecDepth 100000 in
theorem mv_7_readsMembers : (Cond.selects RX7 yX7_readsMembers yX7_readsMembers) ∈ x_big := x_mm (List.mem_append_left _ (List.mem_of_getElem? (i := 43) rfl)) rfl
set_option maxRecDepth 100000 in
theorem mv_7_readsMember : (Cond.selects RX7 yX7_readsMember yX7_readsMember) ∈ x_big := x_mm (List.mem_append_left _ (List.mem_of_getElem? (i := 44) rfl)) rfl
set_option maxRecDepth 100000 in
theorem mv_7_sortAt : (Cond.selects RX7 yX7_sortAt yX7_sortAt) ∈ x_big := x_mm (List.mem_append_left _ (List.mem_of_getElem? (i := 45) rfl)) rfl
set_option maxRecDepth 100000 in
theorem mv_7_byteAt : (Cond.selects RX7 yX7_byteAt yX7_byteAt) ∈ x_big := x_mm (List.mem_append_left _ (List.mem_of_getElem? (i := 46) rfl)) rfl
set_option maxRecDepth 100000 in
theorem mv_7_stoneOf : (Cond.selects RX7 yX7_stoneOf yX7_stoneOf) ∈ x_big := x_mm (List.mem_append_left _ (List.mem_of_getElem? (i := 47) rfl)) rfl
set_option maxRecDepth 100000 in
theorem mv_7_reads : (Cond.selects RX7 yX7_reads yX7_reads) ∈ x_big := x_mm (List.mem_append_left _ (List.mem_of_getElem? (i := 48) rfl)) rfl
set_option maxRecDepth 100000 in
theorem mv_7_isMember : (Cond.selects RX7 yX7_isMember yX7_isMember) ∈ x_big := x_mm (List.mem_append_left _ (List.mem_of_getElem? (i := 49) rfl)) rfl
set_option maxRecDepth 100000 in
theorem mv_7_memberOf : (Cond.selects RX7 yX7_memberOf yX7_memberOf) ∈ x_big := x_mm (List.mem_append_left _ (List.mem_of_getElem? (i := 50) rfl)) rfl
set_option maxRecDepth 100000 in
theorem mv_7_meets : (Cond.selects RX7 yX7_meets yX7_meets) ∈ x_big := x_mm (List.mem_append_left _ (List.mem_of_getElem? (i := 51) rfl)) rfl
set_option maxRecDepth 100000 in
theorem mv_7_dampOf : (Cond.selects RX7 yX7_dampOf yX7_dampOf) ∈ x_big := x_mm (List.mem_append_left _ (List.mem_of_getElem? (i := 52) rfl)) rfl
set_option maxRecDepth 100000 in
theorem mv_7_runsTold : (Cond.selects RX7 yX7_runsTold yX7_runsTold) ∈ x_big := x_mm (List.mem_append_left _ (List.mem_of_getElem? (i := 53) rfl)) rfl
set_option maxRecDepth 100000 in
theorem mv_7_asTold : (Cond.selects RX7 yX7_asTold yX7_asTold) ∈ x_big := x_mm (List.mem_append_left _ (List.mem_of_getElem? (i := 54) rfl)) rfl
set_option maxRecDepth 100000 in
theorem mv_7_runs : (Cond.selects RX7 yX7_runs yX7_runs) ∈ x_big := x_mm (List.mem_append_left _ (List.mem_of_getElem? (i := 55) rfl)) rfl
set_option maxRecDepth 100000 in
theorem mv_7_goesBy : (Cond.selects RX7 yX7_goesBy yX7_goesBy) ∈ x_big := x_mm (List.mem_append_left _ (List.mem_of_getElem? (i := 56) rfl)) rfl
set_option maxRecDepth 100000 in
theorem mv_7_befalls : (Cond.selects RX7 yX7_befalls yX7_befalls) ∈ x_big := x_mm (List.mem_append_left _ (List.mem_of_getElem? (i := 57) rfl)) rfl
set_option maxRecDepth 100000 in
theorem mv_7_lifts : (Cond.selects RX7 yX7_lifts yX7_lifts) ∈ x_big := x_mm (List.mem_append_left _ (List.mem_of_getElem? (i := 58) rfl)) rfl
set_option maxRecDepth 100000 in
theorem mv_7_peppers : (Cond.selects RX7 yX7_peppers yX7_peppers) ∈ x_big := x_mm (List.mem_append_left _ (List.mem_of_getElem? (i := 59) rfl)) rfl
set_option maxRecDepth 100000 in
theorem mv_7_wets : (Cond.selects RX7 yX7_wets yX7_wets) ∈ x_big := x_mm (List.mem_append_left _ (List.mem_of_getElem? (i := 60) rfl)) rfl
set_option maxRecDepth 100000 in
theorem mv_7_walks : (Cond.selects RX7 yX7_walks yX7_walks) ∈ x_big := x_mm (List.mem_append_left _ (List.mem_of_getElem? (i := 61) rfl)) rfl
set_option maxRecDepth 100000 in
theorem mv_7_isRolled : (Cond.selects RX7 yX7_isRolled yX7_isRolled) ∈ x_big := x_mm (List.mem_append_left _ (List.mem_of_getElem? (i := 62) rfl)) rfl
set_option maxRecDepth 100000 in
theorem mv_7_steps : (Cond.selects RX7 yX7_steps yX7_steps) ∈ x_big := x_mm (List.mem_append_left _ (List.mem_of_getElem? (i := 63) rfl)) rfl
set_option maxRecDepth 100000 in
theorem mv_7_dampNow : (Cond.selects RX7 yX7_dampNow yX7_dampNow) ∈ x_big := x_mm (List.mem_append_left _ (List.mem_of_getElem? (i := 64) rfl)) rfl
set_option maxRecDepth 100000 in
theorem mv_7_passesOver : (Cond.selects RX7 yX7_passesOver yX7_passesOver) ∈ x_big := x_mm (List.mem_append_left _ (List.mem_of_getElem? (i := 65) rfl)) rfl
set_option maxRecDepth 100000 in
theorem mv_7_manyAt : (Cond.selects RX7 yX7_manyAt yX7_manyAt) ∈ x_big := x_mm (List.mem_append_left _ (List.mem_of_getElem? (i := 66) rfl)) rfl
set_option maxRecDepth 100000 in
theorem mv_7_divides : (Cond.selects RX7 yX7_divides yX7_divides) ∈ x_big := x_mm (List.mem_append_left _ (List.mem_of_getElem? (i := 67) rfl)) rfl
set_option maxRecDepth 100000 in
theorem mv_7_atOf : (Cond.selects RX7 yX7_atOf yX7_atOf) ∈ x_big := x_mm (List.mem_append_left _ (List.mem_of_getElem? (i := 68) rfl)) rfl
set_option maxRecDepth 100000 in
theorem mv_7_houseOf : (Cond.selects RX7 yX7_houseOf yX7_houseOf) ∈ x_big := x_mm (List.mem_append_left _ (List.mem_of_getElem? (i := 69) rfl)) rfl
set_option maxRecDepth 100000 in
theorem mv_7_isCarried : (Cond.selects RX7 yX7_isCarried yX7_isCarried) ∈ x_big := x_mm (List.mem_append_left _ (List.mem_of_getElem? (i := 70) rfl)) rfl
set_option maxRecDepth 100000 in
theorem mv_7_governmentsOf : (Cond.selects RX7 yX7_governmentsOf yX7_governmentsOf) ∈ x_big := x_mm (List.mem_append_left _ (List.mem_of_getElem? (i := 71) rfl)) rfl
set_option maxRecDepth 100000 in
theorem mv_7_governmentsNow : (Cond.selects RX7 yX7_governmentsNow yX7_governmentsNow) ∈ x_big := x_mm (List.mem_append_left _ (List.mem_of_getElem? (i := 72) rfl)) rfl
set_option maxRecDepth 100000 in
theorem mv_7_carriedOf : (Cond.selects RX7 yX7_carriedOf yX7_carriedOf) ∈ x_big := x_mm (List.mem_append_left _ (List.mem_of_getElem? (i := 73) rfl)) rfl
set_option maxRecDepth 100000 in
theorem mv_7_carriedNow : (Cond.selects RX7 yX7_carriedNow yX7_carriedNow) ∈ x_big := x_mm (List.mem_append_left _ (List.mem_of_getElem? (i := 74) rfl)) rfl
set_option maxRecDepth 100000 in
theorem mv_7_crowdOf : (Cond.selects RX7 yX7_crowdOf yX7_crowdOf) ∈ x_big := x_mm (List.mem_append_left _ (List.mem_of_getElem? (i := 75) rfl)) rfl
set_option maxRecDepth 100000 in
theorem mv_7_oratorOf : (Cond.selects RX7 yX7_oratorOf yX7_oratorOf) ∈ x_big := x_mm (List.mem_append_left _ (List.mem_of_getElem? (i := 76) rfl)) rfl
set_option maxRecDepth 100000 in
theorem mv_7_stillOf : (Cond.selects RX7 yX7_stillOf yX7_stillOf) ∈ x_big := x_mm (List.mem_append_left _ (List.mem_of_getElem? (i := 77) rfl)) rfl
set_option maxRecDepth 100000 in
theorem mv_7_seatOf : (Cond.selects RX7 yX7_seatOf yX7_seatOf) ∈ x_big := x_mm (List.mem_append_left _ (List.mem_of_getElem? (i := 78) rfl)) rfl
set_option maxRecDepth 100000 in
theorem mv_7_dustOf : (Cond.selects RX7 yX7_dustOf yX7_dustOf) ∈ x_big := x_mm (List.mem_append_left _ (List.mem_of_getElem? (i := 79) rfl)) rfl
set_option maxRecDepth 100000 in
theorem mv_7_more : (Cond.selects RX7 yX7_more yX7_more) ∈ x_big := x_mm (List.mem_append_left _ (List.mem_of_getElem? (i := 80) rfl)) rfl
set_option maxRecDepth 100000 in
theorem mv_7_boyOf : (Cond.selects RX7 yX7_boyOf yX7_boyOf) ∈ x_big := x_mm (List.mem_append_left _ (List.mem_of_getElem? (i := 81) rfl)) rfl
set_option maxRecDepth 100000 in
theorem mv_7_calmBy : (Cond.selects RX7 yX7_calmBy yX7_calmBy) ∈ x_big := x_mm (List.mem_append_left _ (List.mem_of_getElem? (i := 82) rfl)) rfl
set_option maxRecDepth 100000 in
theorem mv_7_isCalm : (Cond.selects RX7 yX7_isCalm yX7_isCalm) ∈ x_big := x_mm (List.mem_append_left _ (List.mem_of_getElem? (i := 83) rfl)) rfl
set_option maxRecDepth 100000 in
theorem mv_7_ofRow : (Cond.selects RX7 yX7_ofRow yX7_ofRow) ∈ x_big := x_mm (List.mem_append_left _ (List.mem_of_getElem? (i := 84) rfl)) rfl
set_option maxRecDepth 100000 in
theorem mv_7_neverNow : (Cond.selects RX7 yX7_neverNow yX7_neverNow) ∈ x_big := x_mm (List.mem_append_left _ (List.mem_of_getElem? (i := 85) rfl)) rfl
set_option maxRecDepth 100000 in
theorem mv_7_isSeen : (Cond.selects RX7 yX7_isSeen yX7_isSeen) ∈ x_big := x_mm (List.mem_append_left _ (List.mem_of_getElem? (i := 86) rfl)) rfl
set_option maxRecDepth 100000 in
theorem mv_7_sortsBy : (Cond.selects RX7 yX7_sortsBy yX7_sortsBy) ∈ x_big := x_mm (List.mem_append_left _ (List.mem_of_getElem? (i := 87) rfl)) rfl
set_option maxRecDepth 100000 in
theorem mv_7_wetBy : (Cond.selects RX7 yX7_wetBy yX7_wetBy) ∈ x_big := x_mm (List.mem_append_left _ (List.mem_of_getElem? (i := 88) rfl)) rfl
set_option maxRecDepth 100000 in
theorem mv_7_askOf : (Cond.selects RX7 yX7_askOf yX7_askOf) ∈ x_big := x_mm (List.mem_append_left _ (List.mem_of_getElem? (i := 89) rfl)) rfl
set_option maxRecDepth 100000 in
theorem mv_7_chanceOf : (Cond.selects RX7 yX7_chanceOf yX7_chanceOf) ∈ x_big := x_mm (List.mem_append_left _ (List.mem_of_getElem? (i := 90) rfl)) rfl
set_option maxRecDepth 100000 in
theorem mv_7_agesOf : (Cond.selects RX7 yX7_agesOf yX7_agesOf) ∈ x_big := x_mm (List.mem_append_left _ (List.mem_of_getElem? (i := 91) rfl)) rfl
set_option maxRecDepth 100000 in
theorem mv_7_lacks : (Cond.selects RX7 yX7_lacks yX7_lacks) ∈ x_big := x_mm (List.mem_append_left _ (List.mem_of_getElem? (i := 92) rfl)) rfl
set_option maxRecDepth 100000 in
theorem mv_7_keep : (Cond.selects RX7 yX7_keep yX7_keep) ∈ x_big := x_mm (List.mem_append_left _ (List.mem_of_getElem? (i := 93) rfl)) rfl
set_option maxRecDepth 100000 in
theorem mv_7_sumOf : (Cond.selects RX7 yX7_sumOf yX7_sumOf) ∈ x_big := x_mm (List.mem_append_left _ (List.mem_of_getElem? (i := 94) rfl)) rfl
set_option maxRecDepth 100000 in
theorem mv_7_placeDigest : (Cond.selects RX7 yX7_placeDigest yX7_placeDigest) ∈ x_big := x_mm (List.mem_append_left _ (List.mem_of_getElem? (i := 95) rfl)) rfl
set_option maxRecDepth 100000 in
theorem mv_7_memberDigest : (Cond.selects RX7 yX7_memberDigest yX7_memberDigest) ∈ x_big := x_mm (List.mem_append_left _ (List.mem_of_getElem? (i := 96) rfl)) rfl
set_option maxRecDepth 100000 in
theorem mv_7_hourDigest : (Cond.selects RX7 yX7_hourDigest yX7_hourDigest) ∈ x_big := x_mm (List.mem_append_left _ (List.mem_of_getElem? (i := 97) rfl)) rfl
end
section
abbrev xSt : Type := (Nat → Nat → Int32) × (Nat → Nat → Nat → Int32) × (Nat → Nat → Nat → Nat → Int32)
abbrev xAd : Type := Nat → Nat → Nat → Nat
def xI (σ : xSt) (o k : Nat) : Int32 := σ.1 o k
def xA (σ : xSt) (o k : Nat) : Nat → Int32 := σ.2.1 o k
def xB (σ : xSt) (o k r : Nat) : Nat → Int32 := σ.2.2 o k r
def xsI (σ : xSt) (o k : Nat) (v : Int32) : xSt := (fun o' k' => if o' = o ∧ k' = k then v else σ.1 o' k', σ.2.1, σ.2.2)
def xsA (σ : xSt) (o k : Nat) (f : Nat → Int32) : xSt := (σ.1, fun o' k' => if o' = o ∧ k' = k then f else σ.2.1 o' k', σ.2.2)
def xsB (σ : xSt) (o k r : Nat) (f : Nat → Int32) : xSt := (σ.1, σ.2.1, fun o' k' r' => if o' = o ∧ k' = k ∧ r' = r then f else σ.2.2 o' k' r')
def xuA (σ : xSt) (o k : Nat) (j : Nat) (v : Int32) : xSt := xsA σ o k (upd (xA σ o k) j v)
def xuB (σ : xSt) (o k r : Nat) (j : Nat) (v : Int32) : xSt := xsB σ o k r (upd (xB σ o k r) j v)
/-- a join: what comes behind, and the ways to it -/
def jn {α : Sort _} (k : α) (b : α → Prop) : Prop := b k
def x_lim : Nat := 1000
def x_cl (o : Nat) : Nat := [6, 5, 5, 1, 1, 2, 2, 4, 0, 3, 3, 3, 3, 7].getD o 9
def x_ar0 (_ : Nat) (k : Nat) : Option (Nat × Nat) := ([none, none] : List (Option (Nat × Nat))).getD k none
def x_ar1 (_ : Nat) (k : Nat) : Option (Nat × Nat) := ([some (0, 12), some (0, 8), some (0, 8), some (0, 8), none, some (0, 9), some (0, 9), some (0, 9), none] : List (Option (Nat × Nat))).getD k none
def x_ar2 (_ : Nat) (k : Nat) : Option (Nat × Nat) := ([some (0, 12), some (0, 12), some (0, 8), some (0, 8), some (0, 8), some (0, 8), some (1, 8), some (0, 8), none, none, some (2, 12), some (2, 12), some (2, 8), some (2, 8), some (2, 8), some (2, 8), some (0, 20), some (0, 20)] : List (Option (Nat × Nat))).getD k none
def x_ar3 (_ : Nat) (k : Nat) : Option (Nat × Nat) := ([some (0, 60), none, none] : List (Option (Nat × Nat))).getD k none
def x_ar4 (_ : Nat) (k : Nat) : Option (Nat × Nat) := ([some (0, 8), some (0, 8), some (0, 8), none] : List (Option (Nat × Nat))).getD k none
def x_ar5 (o : Nat) (k : Nat) : Option (Nat × Nat) := ([some (0, (if o = 1 then 12 else 31)), none] : List (Option (Nat × Nat))).getD k none
def x_ar6 (_ : Nat) (k : Nat) : Option (Nat × Nat) := ([none, none, none, none, none, none, none, none, some (3, 4), some (2, 10), some (0, 10), none, none, none, none, none] : List (Option (Nat × Nat))).getD k none
def x_ar7 (_ : Nat) (k : Nat) : Option (Nat × Nat) := ([some (0, 2), some (0, 62), none, some (0, 12), none, some (0, 9), some (0, 9), some (0, 9), none, some (0, 9), some (0, 9), some (0, 9), none, some (0, 9), some (0, 9), some (0, 9), none, some (0, 12), some (0, 8), some (0, 8), some (0, 8), some (0, 8), none, some (0, 240), some (0, 160), some (0, 160), some (0, 160), some (0, 20), some (0, 20), some (0, 20), some (0, 2), none, some (0, 8), some (0, 8), some (0, 8), some (0, 200), some (1, 4), some (0, 4), some (0, 4), some (0, 240), some (0, 60), none] : List (Option (Nat × Nat))).getD k none
def x_ar (c o k : Nat) : Option (Nat × Nat) := match c with
  | 0 => x_ar0 o k
  | 1 => x_ar1 o k
  | 2 => x_ar2 o k
  | 3 => x_ar3 o k
  | 4 => x_ar4 o k
  | 5 => x_ar5 o k
  | 6 => x_ar6 o k
  | 7 => x_ar7 o k
  | _ => none
def x_fl (ad : xAd) (σ : xSt) (c o : Nat) : List Value := match c with
  | 0 => [.int (xI σ o 0), .int (xI σ o 1)]
  | 1 => [.ref (ad o 1 0), .ref (ad o 2 0), .ref (ad o 3 0), .ref (ad o 4 0), .int (xI σ o 4), .ref (ad o 6 0), .ref (ad o 7 0), .ref (ad o 8 0), .int (xI σ o 8)]
  | 2 => [.ref (ad o 1 0), .ref (ad o 2 0), .ref (ad o 3 0), .ref (ad o 4 0), .ref (ad o 5 0), .ref (ad o 6 0), .ref (ad o 7 0), .ref (ad o 8 0), .int (xI σ o 8), .int (xI σ o 9), .ref (ad o 11 0), .ref (ad o 12 0), .ref (ad o 13 0), .ref (ad o 14 0), .ref (ad o 15 0), .ref (ad o 16 0), .ref (ad o 17 0), .ref (ad o 18 0)]
  | 3 => [.ref (ad o 1 0), .int (xI σ o 1), .int (xI σ o 2)]
  | 4 => [.ref (ad o 1 0), .ref (ad o 2 0), .ref (ad o 3 0), .int (xI σ o 3)]
  | 5 => [.ref (ad o 1 0), .int (xI σ o 1)]
  | 6 => [.ref (ad 1 0 0), .ref (ad 2 0 0), .ref (ad 3 0 0), .ref (ad 4 0 0), .ref (ad 5 0 0), .ref (ad 6 0 0), .ref (ad 7 0 0), .ref (ad 8 0 0), .ref (ad o 9 0), .ref (ad o 10 0), .ref (ad o 11 0), .int (xI σ o 11), .int (xI σ o 12), .int (xI σ o 13), .int (xI σ o 14), .int (xI σ o 15)]
  | 7 => [.ref (ad o 1 0), .ref (ad o 2 0), .int (xI σ o 2), .ref (ad o 4 0), .int (xI σ o 4), .ref (ad o 6 0), .ref (ad o 7 0), .ref (ad o 8 0), .int (xI σ o 8), .ref (ad o 10 0), .ref (ad o 11 0), .ref (ad o 12 0), .int (xI σ o 12), .ref (ad o 14 0), .ref (ad o 15 0), .ref (ad o 16 0), .int (xI σ o 16), .ref (ad o 18 0), .ref (ad o 19 0), .ref (ad o 20 0), .ref (ad o 21 0), .ref (ad o 22 0), .int (xI σ o 22), .ref (ad o 24 0), .ref (ad o 25 0), .ref (ad o 26 0), .ref (ad o 27 0), .ref (ad o 28 0), .ref (ad o 29 0), .ref (ad o 30 0), .ref (ad o 31 0), .int (xI σ o 31), .ref (ad o 33 0), .ref (ad o 34 0), .ref (ad o 35 0), .ref (ad o 36 0), .ref (ad o 37 0), .ref (ad o 38 0), .ref (ad o 39 0), .ref (ad o 40 0), .ref (ad o 41 0), .int (xI σ o 41)]
  | _ => []
abbrev x_cls : List vw_C := [(RX0, TX0, 2), (RX1, TX1, 9), (RX2, TX2, 18), (RX3, TX3, 3), (RX4, TX4, 4), (RX5, TX5, 2), (RX6, TX6, 16), (RX7, TX7, 42)]
abbrev xG : Type := va_G × (ClassId × ClassId × ClassId × ClassId)
abbrev x_tys (G : xG) : List (ClassId × FieldType) := [(G.2.1, .int), (G.2.2.1, .boolean), (G.2.2.2.1, .object "WoodliceSenate$Sheet"), (G.2.2.2.2, .array .int)]
def x_q (ad : xAd) (o k : Nat) : Nat → Option Nat := fun j => if j < 20 then some (ad o (k + 1) (j + 1)) else none
def x_sh (ad : xAd) : Nat → Option Nat := fun j => if j < 4 then some (ad (9 + j) 0 0) else none
def x_ent (ad : xAd) (G : xG) (σ : xSt) (o f r : Nat) : Option va_E := match f, r with
  | 0, 0 => if x_cl o < 8 then some (.inr (x_cl o, x_fl ad σ (x_cl o) o)) else none
  | 0, _ + 1 => none
  | k + 1, 0 => match x_ar (x_cl o) o k with
    | some (0, n) => some (.inl (G.2.1, n, .inl (xA σ o k)))
    | some (1, n) => some (.inl (G.2.2.1, n, .inl (xA σ o k)))
    | some (2, _) => some (.inl (G.2.2.2.2, 20, .inr (.inr (.inr (.inr (x_q ad o k))))))
    | some (_, _) => some (.inl (G.2.2.2.1, 4, .inr (.inr (.inr (.inr (x_sh ad))))))
    | none => none
  | k + 1, r + 1 => match x_ar (x_cl o) o k with
    | some (2, n) => if r < 20 then some (.inl (G.2.1, n, .inl (xB σ o k r))) else none
    | _ => none
def x_dom (o f r : Nat) : Bool := match f, r with
  | 0, 0 => decide (x_cl o < 8)
  | 0, _ + 1 => false
  | k + 1, 0 => (x_ar (x_cl o) o k).isSome
  | k + 1, r + 1 => match x_ar (x_cl o) o k with
    | some (2, _) => decide (r < 20)
    | _ => false
theorem x_ent_dom {ad : xAd} {G : xG} {σ : xSt} {o f r : Nat} {e : va_E} (h : x_ent ad G σ o f r = some e) : x_dom o f r = true := by
  unfold x_ent at h
  unfold x_dom
  split at h
  · split at h
    · simpa using ‹x_cl o < 8›
    · cases h
  · cases h
  · show (x_ar (x_cl o) o _).isSome = true
    split at h <;> simp_all
  · split at h
    · split at h
      · simp_all
      · cases h
    · cases h
theorem x_ent_o {ad : xAd} {G : xG} {σ : xSt} {o c : Nat} (h : x_cl o = c) (h8 : c < 8) : x_ent ad G σ o 0 0 = some (.inr (c, x_fl ad σ c o)) := by
  subst h
  show (if _ then _ else _) = _
  rw [if_pos h8]
theorem x_ent_a {ad : xAd} {G : xG} {σ : xSt} {o k n : Nat} (h : x_ar (x_cl o) o k = some (0, n)) : x_ent ad G σ o (k + 1) 0 = some (.inl (G.2.1, n, .inl (xA σ o k))) := by
  simp only [x_ent, h]
theorem x_ent_z {ad : xAd} {G : xG} {σ : xSt} {o k n : Nat} (h : x_ar (x_cl o) o k = some (1, n)) : x_ent ad G σ o (k + 1) 0 = some (.inl (G.2.2.1, n, .inl (xA σ o k))) := by
  simp only [x_ent, h]
theorem x_ent_g {ad : xAd} {G : xG} {σ : xSt} {o k n : Nat} (h : x_ar (x_cl o) o k = some (2, n)) : x_ent ad G σ o (k + 1) 0 = some (.inl (G.2.2.2.2, 20, .inr (.inr (.inr (.inr (x_q ad o k)))))) := by
  simp only [x_ent, h]
theorem x_ent_q {ad : xAd} {G : xG} {σ : xSt} {o k n : Nat} (h : x_ar (x_cl o) o k = some (3, n)) : x_ent ad G σ o (k + 1) 0 = some (.inl (G.2.2.2.1, 4, .inr (.inr (.inr (.inr (x_sh ad)))))) := by
  simp only [x_ent, h]
theorem x_ent_r {ad : xAd} {G : xG} {σ : xSt} {o k n r : Nat} (h : x_ar (x_cl o) o k = some (2, n)) (hr : r < 20) : x_ent ad G σ o (k + 1) (r + 1) = some (.inl (G.2.1, n, .inl (xB σ o k r))) := by
  simp only [x_ent, h, if_pos hr]
theorem x_fl_ne {ad : xAd} {σ : xSt} {o o' k : Nat} {v : Int32} (c : Nat) (h : ¬ o' = o) : x_fl ad (xsI σ o k v) c o' = x_fl ad σ c o' := by
  unfold x_fl
  split <;> simp [xI, xsI, h]
theorem x_ent_setI {ad : xAd} {G : xG} {σ : xSt} {o k o' f r : Nat} {v : Int32} (h : ¬ (o' = o ∧ f = 0 ∧ r = 0)) : x_ent ad G (xsI σ o k v) o' f r = x_ent ad G σ o' f r := by
  cases f with
  | zero =>
    cases r with
    | zero =>
      have h1 : ¬ o' = o := fun e => h ⟨e, rfl, rfl⟩
      simp only [x_ent, x_fl_ne _ h1]
    | succ r => rfl
  | succ f =>
    cases r <;> rfl
theorem x_ent_setA {ad : xAd} {G : xG} {σ : xSt} {o k o' f r : Nat} {g : Nat → Int32} (h : ¬ (o' = o ∧ f = k + 1 ∧ r = 0)) : x_ent ad G (xsA σ o k g) o' f r = x_ent ad G σ o' f r := by
  cases f with
  | zero => cases r <;> rfl
  | succ f =>
    cases r with
    | zero =>
      have h1 : ¬ (o' = o ∧ f = k) := fun e => h ⟨e.1, by rw [e.2], rfl⟩
      have h2 : xA (xsA σ o k g) o' f = xA σ o' f := by
        show (if _ then _ else _) = _
        rw [if_neg h1]; rfl
      simp only [x_ent, h2]
    | succ r => rfl
theorem x_ent_setB {ad : xAd} {G : xG} {σ : xSt} {o k q o' f r : Nat} {g : Nat → Int32} (h : ¬ (o' = o ∧ f = k + 1 ∧ r = q + 1)) : x_ent ad G (xsB σ o k q g) o' f r = x_ent ad G σ o' f r := by
  cases f with
  | zero => cases r <;> rfl
  | succ f =>
    cases r with
    | zero => rfl
    | succ r =>
      have h1 : ¬ (o' = o ∧ f = k ∧ r = q) := fun e => h ⟨e.1, by rw [e.2.1], by rw [e.2.2]⟩
      have h2 : xB (xsB σ o k q g) o' f r = xB σ o' f r := by
        show (if _ then _ else _) = _
        rw [if_neg h1]; rfl
      simp only [x_ent, h2]
/-- the world -/
def xP (ad : xAd) (G : xG) (σ : xSt) (H : Heap) : Prop := ∀ (o f r : Nat) (e : va_E), x_ent ad G σ o f r = some e → va_at G.1 x_cls (ad o f r, e) H
def xJ (ad : xAd) : Prop := ∀ o f r o' f' r' : Nat, x_dom o f r = true → x_dom o' f' r' = true → ad o f r = ad o' f' r' → o = o' ∧ f = f' ∧ r = r'
def xW (ad : xAd) : Nat → Prop := fun q => ∃ o f r : Nat, x_dom o f r = true ∧ q = ad o f r
theorem xP.one {ad : xAd} {G : xG} {σ : xSt} {H : Heap} (h : xP ad G σ H) {o f r : Nat} {e : va_E} (he : x_ent ad G σ o f r = some e) : va_P G.1 x_cls [(ad o f r, e)] H := by
  intro k q hk
  cases k with
  | zero => cases hk; exact h o f r e he
  | succ k => simp at hk
theorem xP.set {ad : xAd} {G : xG} {σ σ' : xSt} {H H1 : Heap} {o f r : Nat} {e : va_E} (h : xP ad G σ H) (hJ : xJ ad) (hd : x_dom o f r = true) (he : x_ent ad G σ' o f r = some e) (ho : ∀ o' f' r' : Nat, ¬ (o' = o ∧ f' = f ∧ r' = r) → x_ent ad G σ' o' f' r' = x_ent ad G σ o' f' r')
    (ha : va_at G.1 x_cls (ad o f r, e) H1) (oq : ∀ q : Nat, q ≠ ad o f r → H1[q]? = H[q]?) : xP ad G σ' H1 := by
  intro o' f' r' e' h'
  by_cases hk : o' = o ∧ f' = f ∧ r' = r
  · obtain ⟨rfl, rfl, rfl⟩ := hk
    rw [he] at h'
    cases h'
    exact ha
  · have h0 := h'
    rw [ho o' f' r' hk] at h0
    exact (h o' f' r' e' h0).kept (oq _ (fun q => hk (hJ _ _ _ _ _ _ (x_ent_dom h0) hd q)))
-- the words on nest mates
def x_nf : List (String × Nat × String × String × String × String) := [(RX2, 87, "WoodliceSenate$Bill", "damp", "[I", "WoodliceSenate"), (RX2, 107, "WoodliceSenate$Bill", "sorts", "[I", "WoodliceSenate"), (RX2, 108, "WoodliceSenate$Bill", "places", "[I", "WoodliceSenate"), (RX2, 109, "WoodliceSenate$Bill", "uprights", "[I", "WoodliceSenate"), (RX2, 90, "WoodliceSenate$Bill", "members", "I", "WoodliceSenate"), (RX6, 184, "WoodliceSenate$Bill", "members", "I", "WoodliceSenate"), (RX2, 113, "WoodliceSenate$Bill", "kinds", "[I", "WoodliceSenate"), (RX2, 116, "WoodliceSenate$Bill", "hours", "[I", "WoodliceSenate"), (RX2, 122, "WoodliceSenate$Bill", "spots", "[I", "WoodliceSenate"), (RX2, 110, "WoodliceSenate$Bill", "events", "I", "WoodliceSenate"), (RX6, 124, "WoodliceSenate$Bill", "events", "I", "WoodliceSenate"), (RX6, 232, "WoodliceSenate$Sightings", "size", "I", "WoodliceSenate"), (RX6, 194, "WoodliceSenate$Best", "which", "I", "WoodliceSenate"), (RX6, 191, "WoodliceSenate$Best", "value", "I", "WoodliceSenate"), (RX6, 280, "WoodliceSenate$Sheet", "form", "I", "WoodliceSenate"), (RX6, 146, "WoodliceSenate$Sheet", "size", "I", "WoodliceSenate")]
def x_nm : List (String × Nat × MethodName × String) := [(RX6, 23, yX1_init, "WoodliceSenate"), (RX6, 33, yX2_init, "WoodliceSenate"), (RX6, 43, yX4_init, "WoodliceSenate"), (RX6, 50, yX0_init, "WoodliceSenate"), (RX6, 74, yX3_init, "WoodliceSenate"), (RX1, 57, yX6_isPlace, "WoodliceSenate"), (RX2, 141, yX6_isPlace, "WoodliceSenate"), (RX2, 144, yX6_isHour, "WoodliceSenate")]
abbrev x_nfw (q : String × Nat × String × String × String × String) : Cond := .fieldLinkNest q.1 q.2.1 q.2.2.1 q.2.2.2.1 q.2.2.2.2.1 q.2.2.2.2.2
abbrev x_nmw (q : String × Nat × MethodName × String) : Cond := .methodLinkNest q.1 q.2.1 q.2.2.1 q.2.2.2
def x_dh (j : Nat) : Value := .int (if j = 0 then 0 else if j = 1 then 7 else 19)
/-- what holds of the machine's tables at every call -/
def xV (ad : xAd) (G : xG) (U : State) (H : Heap) : Prop := va_K G.1 x_cls (x_tys G) U ∧ (∀ q ∈ x_nf, va_Nw (x_nfw q) U) ∧ (∀ q ∈ x_nm, va_Nw (x_nmw q) U) ∧ ∃ t : Nat, va_Z "WoodliceSenate" "DIGEST_HOURS" "[I" (.ref t) (xW ad) U H ∧ va_T .int t 3 x_dh (xW ad) U H
theorem xV.kept {ad : xAd} {G : xG} {U : State} {H H1 : Heap} (h : xV ad G U H) (hq : ∀ a : Nat, a < H.size → ¬ xW ad a → H1[a]? = H[a]?) : xV ad G U H1 := by
  obtain ⟨h1, h2, h3, t, h4, h5⟩ := h
  exact ⟨h1, h2, h3, t, h4.kept hq, h5.kept hq⟩
theorem xV.warm {ad : xAd} {G : xG} {s U : State} {H : Heap} (hW : s.WarmedH U.vm) (h : xV ad G s H) : xV ad G U H := by
  obtain ⟨h1, h2, h3, t, h4, h5⟩ := h
  exact ⟨va_K.moved hW.alike h1, fun q hq => va_Nw.warmF hW (h2 q hq), fun q hq => va_Nw.warmM hW (h3 q hq), t, va_Z.moved hW.alike h4, va_T.moved hW.alike h5⟩
theorem xV.same {ad : xAd} {G : xG} {s U : State} {H : Heap} (hv : s.vm = U.vm) (h : xV ad G s H) : xV ad G U H := by
  obtain ⟨h1, h2, h3, t, h4, h5⟩ := h
  have ha : s.vm.Alike U.vm := by rw [hv]; exact Vm.Alike.refl _
  exact ⟨va_K.moved ha h1, fun q hq => va_Nw.same rfl hv (h2 q hq), fun q hq => va_Nw.same rfl hv (h3 q hq), t, va_Z.moved ha h4, va_T.moved ha h5⟩
abbrev xE : Type := Program × Launch × Env × Room × State × MethodId × Array Value × List Frame × Method × Code × xG
abbrev eL (E : xE) : Launch := E.2.1
abbrev eG (E : xE) : xG := E.2.2.2.2.2.2.2.2.2.2
def xQ (ad : xAd) (G : xG) (Q : Option Value → xSt → Prop) : Array Value → State → Outcome → State → Prop := fun _ st oc t => (∃ (v : Option Value) (σ : xSt), oc = .returned v ∧ Q v σ ∧ xP ad G σ t.heap) ∧ va_F (xW ad) st t
def KK (ad : xAd) (E : xE) (Q : Option Value → xSt → Prop) (pc : Nat) (L : List (Nat × Value)) (st : List Value) (σ : xSt) : Prop := match E with
  | (p, l, e, R, s, m, args, below, meth, c, G) => ∀ (H : Heap) (locs : List Loc) (ls : Array Slot), lv_has ls c.maxLocals L → xP ad G σ H → va_S (xW ad) s.heap H locs → W p l e R s m args below meth c H locs 0 0 (MQ below (xQ ad G Q) args s 0 0 (xW ad)) (F0 m pc ls st)
def FX (ad : xAd) (E : xE) (cc : ByteArray) (nL : Nat) (own : String) (ret : Option FieldType) (fr lo : Nat) : Prop := match E with
  | (p, _, _, R, s, m, args, _, meth, c, G) => p.tables.exec = Jvm.exec ∧ c.code = cc ∧ c.maxLocals = nL ∧ s.vm.findClass own = some m.cls ∧ (∀ w ∈ x_big, w.before args s = true) ∧ xV ad G s s.heap ∧ xJ ad ∧ meth.sig.returnType = ret ∧ meth.locks = false ∧ fr ≤ R.frames ∧ lo ≤ R.locals
def xPc (ad : xAd) (G : xG) (av : List Value) (σ : xSt) : Array Value → State → Prop := va_Pc av (fun U => xP ad G σ U.heap ∧ xV ad G U U.heap ∧ xJ ad)
def MC (ad : xAd) (G : xG) (l : Launch) (y : MethodName) (cc : ByteArray) (nL : Nat) (ret : Option FieldType) (fr lo : Nat) (av : List Value) (σ : xSt) (Q : Option Value → xSt → Prop) : Prop :=
  Met l y (.code y cc nL ret :: x_big) { frames := fr, cells := 0, slots := 0, locals := lo } (xPc ad G av σ) (xQ ad G Q) 0 0 (xW ad)
theorem x_MC {ad : xAd} {G : xG} {l : Launch} {y : MethodName} {cc : ByteArray} {nL : Nat} {ret : Option FieldType} {fr lo : Nat} {av : List Value} {σ : xSt} {Q : Option Value → xSt → Prop} (L0 : List (Nat × Value)) (hy : plainName y.cls = true) (hL : lv_args 0 av = L0) (hn : (lg_sl av).length ≤ nL)
    (body : ∀ E : xE, eG E = G → eL E = l → FX ad E cc nL y.cls ret fr lo → KK ad E Q 0 L0 [] σ) : MC ad G l y cc nL ret fr lo av σ Q := by
  refine Met.ofW (cc := cc) (maxL := nL) (ret := ret) hy rfl ?_
  intro p e s m args below meth c s₁ B hml hv
  obtain ⟨rfl, hP, hV, hJ⟩ := hv
  have hts := atoms_spec (ws := .code y cc nL ret :: x_big) B.pre
  have hown : s.vm.findClass y.cls = some m.cls := findClass_of_methodNamed B.named
  have X : FX ad (p, l, e, (headSpec (.code y cc nL ret :: x_big) { frames := fr, cells := 0, slots := 0, locals := lo }).room, s, m, av.toArray, below, meth, c, G) cc nL y.cls ret fr lo :=
    ⟨B.exec, B.bytes, hml, hown, fun w h => hts w (List.mem_cons_of_mem _ h), hV, hJ, B.returns, B.notSynchronized, Nat.le_refl _, Nat.le_refl _⟩
  have hl := lv_entry av (n := nL) hn
  rw [hL] at hl
  rw [lg_entry_eq]
  exact body _ rfl rfl X s.heap [] _ (by rw [hml]; exact hl) hP va_S.rf
end
section
section XR
variable {ad : xAd} {E : xE} {Q : Option Value → xSt → Prop} {cc : ByteArray} {nL fr lo : Nat} {own : String} {ret : Option FieldType} {pc : Nat} {L : List (Nat × Value)} {st : List Value} {σ : xSt}
theorem r_iconst (X : FX ad E cc nL own ret fr lo) {n : Int} {v : Int32} (hd : decode cc pc = .ok (.iconst n, 1)) (hv : Int32.ofInt n = v) (kk : KK ad E Q (pc + 1) L (.int v :: st) σ) : KK ad E Q (pc) L (st) σ := by
  obtain ⟨p, l, e, R, s, m, args, below, meth, c9, G⟩ := E
  intro H locs ls h1 h2 h3
  exact lv_iconst X.1 X.2.1 hd hv (kk H locs ls h1 h2 h3)
theorem r_bipush (X : FX ad E cc nL own ret fr lo) {n : Int} {v : Int32} (hd : decode cc pc = .ok (.bipush n, 2)) (hv : (Int8.ofInt n).toInt32 = v) (kk : KK ad E Q (pc + 2) L (.int v :: st) σ) : KK ad E Q (pc) L (st) σ := by
  obtain ⟨p, l, e, R, s, m, args, below, meth, c9, G⟩ := E
  intro H locs ls h1 h2 h3
  exact lv_bipush X.1 X.2.1 hd hv (kk H locs ls h1 h2 h3)
theorem r_sipush (X : FX ad E cc nL own ret fr lo) {n : Int} {v : Int32} (hd : decode cc pc = .ok (.sipush n, 3)) (hv : (Int16.ofInt n).toInt32 = v) (kk : KK ad E Q (pc + 3) L (.int v :: st) σ) : KK ad E Q (pc) L (st) σ := by
  obtain ⟨p, l, e, R, s, m, args, below, meth, c9, G⟩ := E
  intro H locs ls h1 h2 h3
  exact lv_sipush X.1 X.2.1 hd hv (kk H locs ls h1 h2 h3)
theorem r_lconst (X : FX ad E cc nL own ret fr lo) {n : Fin 2} {v : Int64} (hd : decode cc pc = .ok (.lconst n, 1)) (hv : Int64.ofNat (n : Nat) = v) (kk : KK ad E Q (pc + 1) L (.long v :: st) σ) : KK ad E Q (pc) L (st) σ := by
  obtain ⟨p, l, e, R, s, m, args, below, meth, c9, G⟩ := E
  intro H locs ls h1 h2 h3
  exact lv_lconst X.1 X.2.1 hd hv (kk H locs ls h1 h2 h3)
theorem r_null (X : FX ad E cc nL own ret fr lo) (hd : decode cc pc = .ok (.aconst_null, 1)) (kk : KK ad E Q (pc + 1) L (.null :: st) σ) : KK ad E Q (pc) L (st) σ := by
  obtain ⟨p, l, e, R, s, m, args, below, meth, c9, G⟩ := E
  intro H locs ls h1 h2 h3
  exact lv_null X.1 X.2.1 hd (kk H locs ls h1 h2 h3)
theorem r_ldcw (X : FX ad E cc nL own ret fr lo) {index : Nat} {v : Int32} (hw : Cond.constant own index v ∈ x_big) (hd : decode cc pc = .ok (.ldc_w index, 3)) (kk : KK ad E Q (pc + 3) L (.int v :: st) σ) : KK ad E Q (pc) L (st) σ := by
  obtain ⟨p, l, e, R, s, m, args, below, meth, c9, G⟩ := E
  intro H locs ls h1 h2 h3
  exact lv_ldcw X.1 X.2.1 X.2.2.2.1 (X.2.2.2.2.1 _ hw) hd (kk H locs ls h1 h2 h3)
theorem r_ldc2 (X : FX ad E cc nL own ret fr lo) {index : Nat} {v : Int64} (hw : Cond.constantLong own index v ∈ x_big) (hd : decode cc pc = .ok (.ldc2_w index, 3)) (kk : KK ad E Q (pc + 3) L (.long v :: st) σ) : KK ad E Q (pc) L (st) σ := by
  obtain ⟨p, l, e, R, s, m, args, below, meth, c9, G⟩ := E
  intro H locs ls h1 h2 h3
  exact lv_ldc2 X.1 X.2.1 X.2.2.2.1 (X.2.2.2.2.1 _ hw) hd (kk H locs ls h1 h2 h3)
theorem r_iload_n (X : FX ad E cc nL own ret fr lo) {k : Fin 4} {i : Nat} {x : Int32} (hd : decode cc pc = .ok (.iload_n k, 1)) (q : Nat) (hi : (k : Nat) = i) (hl : L[q]? = some (i, .int x)) (kk : KK ad E Q (pc + 1) L (.int x :: st) σ) : KK ad E Q (pc) L (st) σ := by
  obtain ⟨p, l, e, R, s, m, args, below, meth, c9, G⟩ := E
  intro H locs ls h1 h2 h3
  exact lv_iload_n X.1 X.2.1 hd hi (lv_at h1 q hl) (kk H locs ls h1 h2 h3)
theorem r_iload (X : FX ad E cc nL own ret fr lo) {i : Nat} {x : Int32} (hd : decode cc pc = .ok (.iload i, 2)) (q : Nat) (hl : L[q]? = some (i, .int x)) (kk : KK ad E Q (pc + 2) L (.int x :: st) σ) : KK ad E Q (pc) L (st) σ := by
  obtain ⟨p, l, e, R, s, m, args, below, meth, c9, G⟩ := E
  intro H locs ls h1 h2 h3
  exact lv_iload X.1 X.2.1 hd (lv_at h1 q hl) (kk H locs ls h1 h2 h3)
theorem r_lload_n (X : FX ad E cc nL own ret fr lo) {k : Fin 4} {i : Nat} {x : Int64} (hd : decode cc pc = .ok (.lload_n k, 1)) (q : Nat) (hi : (k : Nat) = i) (hl : L[q]? = some (i, .long x)) (kk : KK ad E Q (pc + 1) L (.long x :: st) σ) : KK ad E Q (pc) L (st) σ := by
  obtain ⟨p, l, e, R, s, m, args, below, meth, c9, G⟩ := E
  intro H locs ls h1 h2 h3
  exact lv_lload_n X.1 X.2.1 hd hi (lv_at h1 q hl) (kk H locs ls h1 h2 h3)
theorem r_lload (X : FX ad E cc nL own ret fr lo) {i : Nat} {x : Int64} (hd : decode cc pc = .ok (.lload i, 2)) (q : Nat) (hl : L[q]? = some (i, .long x)) (kk : KK ad E Q (pc + 2) L (.long x :: st) σ) : KK ad E Q (pc) L (st) σ := by
  obtain ⟨p, l, e, R, s, m, args, below, meth, c9, G⟩ := E
  intro H locs ls h1 h2 h3
  exact lv_lload X.1 X.2.1 hd (lv_at h1 q hl) (kk H locs ls h1 h2 h3)
theorem r_aload_n (X : FX ad E cc nL own ret fr lo) {k : Fin 4} {i : Nat} {x : Nat} (hd : decode cc pc = .ok (.aload_n k, 1)) (q : Nat) (hi : (k : Nat) = i) (hl : L[q]? = some (i, .ref x)) (kk : KK ad E Q (pc + 1) L (.ref x :: st) σ) : KK ad E Q (pc) L (st) σ := by
  obtain ⟨p, l, e, R, s, m, args, below, meth, c9, G⟩ := E
  intro H locs ls h1 h2 h3
  exact lv_aload_n X.1 X.2.1 hd hi (lv_at h1 q hl) (kk H locs ls h1 h2 h3)
theorem r_aload (X : FX ad E cc nL own ret fr lo) {i : Nat} {x : Nat} (hd : decode cc pc = .ok (.aload i, 2)) (q : Nat) (hl : L[q]? = some (i, .ref x)) (kk : KK ad E Q (pc + 2) L (.ref x :: st) σ) : KK ad E Q (pc) L (st) σ := by
  obtain ⟨p, l, e, R, s, m, args, below, meth, c9, G⟩ := E
  intro H locs ls h1 h2 h3
  exact lv_aload X.1 X.2.1 hd (lv_at h1 q hl) (kk H locs ls h1 h2 h3)
theorem r_aload_nN (X : FX ad E cc nL own ret fr lo) {k : Fin 4} {i : Nat} (hd : decode cc pc = .ok (.aload_n k, 1)) (q : Nat) (hi : (k : Nat) = i) (hl : L[q]? = some (i, .null)) (kk : KK ad E Q (pc + 1) L (.null :: st) σ) : KK ad E Q (pc) L (st) σ := by
  obtain ⟨p, l, e, R, s, m, args, below, meth, c9, G⟩ := E
  intro H locs ls h1 h2 h3
  exact lv_aload_nN X.1 X.2.1 hd hi (lv_at h1 q hl) (kk H locs ls h1 h2 h3)
theorem r_istore_n (X : FX ad E cc nL own ret fr lo) {k : Fin 4} {i : Nat} {x : Int32} (L1 : List (Nat × Value)) (hd : decode cc pc = .ok (.istore_n k, 1)) (hi : (k : Nat) = i) (hn : i < nL) (hl : (i, Value.int x) :: L.filter (fun q => !(q.1 == i) && !(q.1 + 1 == i && q.2.category == 2)) = L1) (kk : KK ad E Q (pc + 1) L1 (st) σ) : KK ad E Q (pc) L (.int x :: st) σ := by
  obtain ⟨p, l, e, R, s, m, args, below, meth, c9, G⟩ := E
  intro H locs ls h1 h2 h3
  exact lv_istore_n X.1 X.2.1 hd hi h1 (by rw [X.2.2.1]; exact hn) hl (fun ls1 g1 => kk H locs ls1 g1 h2 h3)
theorem r_istore (X : FX ad E cc nL own ret fr lo) {i : Nat} {x : Int32} (L1 : List (Nat × Value)) (hd : decode cc pc = .ok (.istore i, 2)) (hn : i < nL) (hl : (i, Value.int x) :: L.filter (fun q => !(q.1 == i) && !(q.1 + 1 == i && q.2.category == 2)) = L1) (kk : KK ad E Q (pc + 2) L1 (st) σ) : KK ad E Q (pc) L (.int x :: st) σ := by
  obtain ⟨p, l, e, R, s, m, args, below, meth, c9, G⟩ := E
  intro H locs ls h1 h2 h3
  exact lv_istore X.1 X.2.1 hd h1 (by rw [X.2.2.1]; exact hn) hl (fun ls1 g1 => kk H locs ls1 g1 h2 h3)
theorem r_lstore_n (X : FX ad E cc nL own ret fr lo) {k : Fin 4} {i : Nat} {x : Int64} (L1 : List (Nat × Value)) (hd : decode cc pc = .ok (.lstore_n k, 1)) (hi : (k : Nat) = i) (hn : i + 1 < nL) (hl : (i, Value.long x) :: L.filter (fun q => !(q.1 == i) && (!(q.1 == i + 1) && !(q.1 + 1 == i && q.2.category == 2))) = L1) (kk : KK ad E Q (pc + 1) L1 (st) σ) : KK ad E Q (pc) L (.long x :: st) σ := by
  obtain ⟨p, l, e, R, s, m, args, below, meth, c9, G⟩ := E
  intro H locs ls h1 h2 h3
  exact lv_lstore_n X.1 X.2.1 hd hi h1 (by rw [X.2.2.1]; exact hn) hl (fun ls1 g1 => kk H locs ls1 g1 h2 h3)
theorem r_lstore (X : FX ad E cc nL own ret fr lo) {i : Nat} {x : Int64} (L1 : List (Nat × Value)) (hd : decode cc pc = .ok (.lstore i, 2)) (hn : i + 1 < nL) (hl : (i, Value.long x) :: L.filter (fun q => !(q.1 == i) && (!(q.1 == i + 1) && !(q.1 + 1 == i && q.2.category == 2))) = L1) (kk : KK ad E Q (pc + 2) L1 (st) σ) : KK ad E Q (pc) L (.long x :: st) σ := by
  obtain ⟨p, l, e, R, s, m, args, below, meth, c9, G⟩ := E
  intro H locs ls h1 h2 h3
  exact lv_lstore X.1 X.2.1 hd h1 (by rw [X.2.2.1]; exact hn) hl (fun ls1 g1 => kk H locs ls1 g1 h2 h3)
theorem r_astore_n (X : FX ad E cc nL own ret fr lo) {k : Fin 4} {i : Nat} {x : Nat} (L1 : List (Nat × Value)) (hd : decode cc pc = .ok (.astore_n k, 1)) (hi : (k : Nat) = i) (hn : i < nL) (hl : (i, Value.ref x) :: L.filter (fun q => !(q.1 == i) && !(q.1 + 1 == i && q.2.category == 2)) = L1) (kk : KK ad E Q (pc + 1) L1 (st) σ) : KK ad E Q (pc) L (.ref x :: st) σ := by
  obtain ⟨p, l, e, R, s, m, args, below, meth, c9, G⟩ := E
  intro H locs ls h1 h2 h3
  exact lv_astore_n X.1 X.2.1 hd hi h1 (by rw [X.2.2.1]; exact hn) hl (fun ls1 g1 => kk H locs ls1 g1 h2 h3)
theorem r_astore (X : FX ad E cc nL own ret fr lo) {i : Nat} {x : Nat} (L1 : List (Nat × Value)) (hd : decode cc pc = .ok (.astore i, 2)) (hn : i < nL) (hl : (i, Value.ref x) :: L.filter (fun q => !(q.1 == i) && !(q.1 + 1 == i && q.2.category == 2)) = L1) (kk : KK ad E Q (pc + 2) L1 (st) σ) : KK ad E Q (pc) L (.ref x :: st) σ := by
  obtain ⟨p, l, e, R, s, m, args, below, meth, c9, G⟩ := E
  intro H locs ls h1 h2 h3
  exact lv_astore X.1 X.2.1 hd h1 (by rw [X.2.2.1]; exact hn) hl (fun ls1 g1 => kk H locs ls1 g1 h2 h3)
theorem r_astore_nN (X : FX ad E cc nL own ret fr lo) {k : Fin 4} {i : Nat} (L1 : List (Nat × Value)) (hd : decode cc pc = .ok (.astore_n k, 1)) (hi : (k : Nat) = i) (hn : i < nL) (hl : (i, Value.null) :: L.filter (fun q => !(q.1 == i) && !(q.1 + 1 == i && q.2.category == 2)) = L1) (kk : KK ad E Q (pc + 1) L1 (st) σ) : KK ad E Q (pc) L (.null :: st) σ := by
  obtain ⟨p, l, e, R, s, m, args, below, meth, c9, G⟩ := E
  intro H locs ls h1 h2 h3
  exact lv_astore_nN X.1 X.2.1 hd hi h1 (by rw [X.2.2.1]; exact hn) hl (fun ls1 g1 => kk H locs ls1 g1 h2 h3)
theorem r_astoreN (X : FX ad E cc nL own ret fr lo) {i : Nat} (L1 : List (Nat × Value)) (hd : decode cc pc = .ok (.astore i, 2)) (hn : i < nL) (hl : (i, Value.null) :: L.filter (fun q => !(q.1 == i) && !(q.1 + 1 == i && q.2.category == 2)) = L1) (kk : KK ad E Q (pc + 2) L1 (st) σ) : KK ad E Q (pc) L (.null :: st) σ := by
  obtain ⟨p, l, e, R, s, m, args, below, meth, c9, G⟩ := E
  intro H locs ls h1 h2 h3
  exact lv_astoreN X.1 X.2.1 hd h1 (by rw [X.2.2.1]; exact hn) hl (fun ls1 g1 => kk H locs ls1 g1 h2 h3)
theorem r_iinc (X : FX ad E cc nL own ret fr lo) {i : Nat} {n : Int} {x v : Int32} (L1 : List (Nat × Value)) (k : Nat) (hd : decode cc pc = .ok (.iinc i n, 3)) (hk : L[k]? = some (i, .int x)) (hv : x + Int32.ofInt n = v) (hn : i < nL) (hl : (i, Value.int v) :: L.filter (fun q => !(q.1 == i) && !(q.1 + 1 == i && q.2.category == 2)) = L1) (kk : KK ad E Q (pc + 3) L1 (st) σ) : KK ad E Q (pc) L (st) σ := by
  obtain ⟨p, l, e, R, s, m, args, below, meth, c9, G⟩ := E
  intro H locs ls h1 h2 h3
  exact lv_iinc X.1 X.2.1 hd h1 hk hv (by rw [X.2.2.1]; exact hn) hl (fun ls1 g1 => kk H locs ls1 g1 h2 h3)
theorem r_norm (X : FX ad E cc nL own ret fr lo) (ks : List Nat) (L1 : List (Nat × Value)) (hl : lv_pick L ks = L1) (kk : KK ad E Q (pc) L1 (st) σ) : KK ad E Q (pc) L (st) σ := by
  obtain ⟨p, l, e, R, s, m, args, below, meth, c9, G⟩ := E
  intro H locs ls h1 h2 h3
  exact kk H locs ls (lv_sub h1 ks hl) h2 h3
theorem r_iadd (X : FX ad E cc nL own ret fr lo) {x y : Int32} (hd : decode cc pc = .ok (.iadd, 1)) (kk : KK ad E Q (pc + 1) L (.int (x + y) :: st) σ) : KK ad E Q (pc) L (.int y :: .int x :: st) σ := by
  obtain ⟨p, l, e, R, s, m, args, below, meth, c9, G⟩ := E
  intro H locs ls h1 h2 h3
  exact lv_iadd X.1 X.2.1 hd (kk H locs ls h1 h2 h3)
theorem r_isub (X : FX ad E cc nL own ret fr lo) {x y : Int32} (hd : decode cc pc = .ok (.isub, 1)) (kk : KK ad E Q (pc + 1) L (.int (x - y) :: st) σ) : KK ad E Q (pc) L (.int y :: .int x :: st) σ := by
  obtain ⟨p, l, e, R, s, m, args, below, meth, c9, G⟩ := E
  intro H locs ls h1 h2 h3
  exact lv_isub X.1 X.2.1 hd (kk H locs ls h1 h2 h3)
theorem r_imul (X : FX ad E cc nL own ret fr lo) {x y : Int32} (hd : decode cc pc = .ok (.imul, 1)) (kk : KK ad E Q (pc + 1) L (.int (x * y) :: st) σ) : KK ad E Q (pc) L (.int y :: .int x :: st) σ := by
  obtain ⟨p, l, e, R, s, m, args, below, meth, c9, G⟩ := E
  intro H locs ls h1 h2 h3
  exact lv_imul X.1 X.2.1 hd (kk H locs ls h1 h2 h3)
theorem r_iand (X : FX ad E cc nL own ret fr lo) {x y : Int32} (hd : decode cc pc = .ok (.iand, 1)) (kk : KK ad E Q (pc + 1) L (.int (x &&& y) :: st) σ) : KK ad E Q (pc) L (.int y :: .int x :: st) σ := by
  obtain ⟨p, l, e, R, s, m, args, below, meth, c9, G⟩ := E
  intro H locs ls h1 h2 h3
  exact lv_iand X.1 X.2.1 hd (kk H locs ls h1 h2 h3)
theorem r_ior (X : FX ad E cc nL own ret fr lo) {x y : Int32} (hd : decode cc pc = .ok (.ior, 1)) (kk : KK ad E Q (pc + 1) L (.int (x ||| y) :: st) σ) : KK ad E Q (pc) L (.int y :: .int x :: st) σ := by
  obtain ⟨p, l, e, R, s, m, args, below, meth, c9, G⟩ := E
  intro H locs ls h1 h2 h3
  exact lv_ior X.1 X.2.1 hd (kk H locs ls h1 h2 h3)
theorem r_ixor (X : FX ad E cc nL own ret fr lo) {x y : Int32} (hd : decode cc pc = .ok (.ixor, 1)) (kk : KK ad E Q (pc + 1) L (.int (x ^^^ y) :: st) σ) : KK ad E Q (pc) L (.int y :: .int x :: st) σ := by
  obtain ⟨p, l, e, R, s, m, args, below, meth, c9, G⟩ := E
  intro H locs ls h1 h2 h3
  exact lv_ixor X.1 X.2.1 hd (kk H locs ls h1 h2 h3)
theorem r_ishl (X : FX ad E cc nL own ret fr lo) {x y : Int32} (hd : decode cc pc = .ok (.ishl, 1)) (kk : KK ad E Q (pc + 1) L (.int (x <<< (y &&& 31)) :: st) σ) : KK ad E Q (pc) L (.int y :: .int x :: st) σ := by
  obtain ⟨p, l, e, R, s, m, args, below, meth, c9, G⟩ := E
  intro H locs ls h1 h2 h3
  exact lv_ishl X.1 X.2.1 hd (kk H locs ls h1 h2 h3)
theorem r_ishr (X : FX ad E cc nL own ret fr lo) {x y : Int32} (hd : decode cc pc = .ok (.ishr, 1)) (kk : KK ad E Q (pc + 1) L (.int (x >>> (y &&& 31)) :: st) σ) : KK ad E Q (pc) L (.int y :: .int x :: st) σ := by
  obtain ⟨p, l, e, R, s, m, args, below, meth, c9, G⟩ := E
  intro H locs ls h1 h2 h3
  exact lv_ishr X.1 X.2.1 hd (kk H locs ls h1 h2 h3)
theorem r_iushr (X : FX ad E cc nL own ret fr lo) {x y : Int32} (hd : decode cc pc = .ok (.iushr, 1)) (kk : KK ad E Q (pc + 1) L (.int (x.toUInt32 >>> (y.toUInt32 &&& Int32.toUInt32 31)).toInt32 :: st) σ) : KK ad E Q (pc) L (.int y :: .int x :: st) σ := by
  obtain ⟨p, l, e, R, s, m, args, below, meth, c9, G⟩ := E
  intro H locs ls h1 h2 h3
  exact lv_iushr X.1 X.2.1 hd rfl (kk H locs ls h1 h2 h3)
theorem r_idiv (X : FX ad E cc nL own ret fr lo) {x y : Int32} (hd : decode cc pc = .ok (.idiv, 1)) (hy : ¬ y = 0) (kk : KK ad E Q (pc + 1) L (.int (x / y) :: st) σ) : KK ad E Q (pc) L (.int y :: .int x :: st) σ := by
  obtain ⟨p, l, e, R, s, m, args, below, meth, c9, G⟩ := E
  intro H locs ls h1 h2 h3
  exact lv_idiv X.1 X.2.1 hd hy (kk H locs ls h1 h2 h3)
theorem r_irem (X : FX ad E cc nL own ret fr lo) {x y : Int32} (hd : decode cc pc = .ok (.irem, 1)) (hy : ¬ y = 0) (kk : KK ad E Q (pc + 1) L (.int (x - x / y * y) :: st) σ) : KK ad E Q (pc) L (.int y :: .int x :: st) σ := by
  obtain ⟨p, l, e, R, s, m, args, below, meth, c9, G⟩ := E
  intro H locs ls h1 h2 h3
  exact lv_irem X.1 X.2.1 hd hy (kk H locs ls h1 h2 h3)
theorem r_ladd (X : FX ad E cc nL own ret fr lo) {x y : Int64} (hd : decode cc pc = .ok (.ladd, 1)) (kk : KK ad E Q (pc + 1) L (.long (x + y) :: st) σ) : KK ad E Q (pc) L (.long y :: .long x :: st) σ := by
  obtain ⟨p, l, e, R, s, m, args, below, meth, c9, G⟩ := E
  intro H locs ls h1 h2 h3
  exact lv_ladd X.1 X.2.1 hd (kk H locs ls h1 h2 h3)
theorem r_lsub (X : FX ad E cc nL own ret fr lo) {x y : Int64} (hd : decode cc pc = .ok (.lsub, 1)) (kk : KK ad E Q (pc + 1) L (.long (x - y) :: st) σ) : KK ad E Q (pc) L (.long y :: .long x :: st) σ := by
  obtain ⟨p, l, e, R, s, m, args, below, meth, c9, G⟩ := E
  intro H locs ls h1 h2 h3
  exact lv_lsub X.1 X.2.1 hd (kk H locs ls h1 h2 h3)
theorem r_lmul (X : FX ad E cc nL own ret fr lo) {x y : Int64} (hd : decode cc pc = .ok (.lmul, 1)) (kk : KK ad E Q (pc + 1) L (.long (x * y) :: st) σ) : KK ad E Q (pc) L (.long y :: .long x :: st) σ := by
  obtain ⟨p, l, e, R, s, m, args, below, meth, c9, G⟩ := E
  intro H locs ls h1 h2 h3
  exact lv_lmul X.1 X.2.1 hd (kk H locs ls h1 h2 h3)
theorem r_land (X : FX ad E cc nL own ret fr lo) {x y : Int64} (hd : decode cc pc = .ok (.land, 1)) (kk : KK ad E Q (pc + 1) L (.long (x &&& y) :: st) σ) : KK ad E Q (pc) L (.long y :: .long x :: st) σ := by
  obtain ⟨p, l, e, R, s, m, args, below, meth, c9, G⟩ := E
  intro H locs ls h1 h2 h3
  exact lv_land X.1 X.2.1 hd (kk H locs ls h1 h2 h3)
theorem r_ldiv (X : FX ad E cc nL own ret fr lo) {x y : Int64} (hd : decode cc pc = .ok (.ldiv, 1)) (hy : ¬ y = 0) (kk : KK ad E Q (pc + 1) L (.long (x / y) :: st) σ) : KK ad E Q (pc) L (.long y :: .long x :: st) σ := by
  obtain ⟨p, l, e, R, s, m, args, below, meth, c9, G⟩ := E
  intro H locs ls h1 h2 h3
  exact lv_ldiv X.1 X.2.1 hd hy (kk H locs ls h1 h2 h3)
theorem r_lrem (X : FX ad E cc nL own ret fr lo) {x y : Int64} (hd : decode cc pc = .ok (.lrem, 1)) (hy : ¬ y = 0) (kk : KK ad E Q (pc + 1) L (.long (x - x / y * y) :: st) σ) : KK ad E Q (pc) L (.long y :: .long x :: st) σ := by
  obtain ⟨p, l, e, R, s, m, args, below, meth, c9, G⟩ := E
  intro H locs ls h1 h2 h3
  exact lv_lrem X.1 X.2.1 hd hy (kk H locs ls h1 h2 h3)
theorem r_lshl (X : FX ad E cc nL own ret fr lo) {x : Int64} {y : Int32} (hd : decode cc pc = .ok (.lshl, 1)) (kk : KK ad E Q (pc + 1) L (.long (x <<< (y.toInt64 &&& 63)) :: st) σ) : KK ad E Q (pc) L (.int y :: .long x :: st) σ := by
  obtain ⟨p, l, e, R, s, m, args, below, meth, c9, G⟩ := E
  intro H locs ls h1 h2 h3
  exact lv_lshl X.1 X.2.1 hd rfl (kk H locs ls h1 h2 h3)
theorem r_lshr (X : FX ad E cc nL own ret fr lo) {x : Int64} {y : Int32} (hd : decode cc pc = .ok (.lshr, 1)) (kk : KK ad E Q (pc + 1) L (.long (x >>> (y.toInt64 &&& 63)) :: st) σ) : KK ad E Q (pc) L (.int y :: .long x :: st) σ := by
  obtain ⟨p, l, e, R, s, m, args, below, meth, c9, G⟩ := E
  intro H locs ls h1 h2 h3
  exact lv_lshr X.1 X.2.1 hd rfl (kk H locs ls h1 h2 h3)
theorem r_i2l (X : FX ad E cc nL own ret fr lo) {x : Int32} (hd : decode cc pc = .ok (.i2l, 1)) (kk : KK ad E Q (pc + 1) L (.long x.toInt64 :: st) σ) : KK ad E Q (pc) L (.int x :: st) σ := by
  obtain ⟨p, l, e, R, s, m, args, below, meth, c9, G⟩ := E
  intro H locs ls h1 h2 h3
  exact lv_i2l X.1 X.2.1 hd rfl (kk H locs ls h1 h2 h3)
theorem r_i2b (X : FX ad E cc nL own ret fr lo) {x : Int32} (hd : decode cc pc = .ok (.i2b, 1)) (kk : KK ad E Q (pc + 1) L (.int x.toInt8.toInt32 :: st) σ) : KK ad E Q (pc) L (.int x :: st) σ := by
  obtain ⟨p, l, e, R, s, m, args, below, meth, c9, G⟩ := E
  intro H locs ls h1 h2 h3
  exact lv_i2b X.1 X.2.1 hd rfl (kk H locs ls h1 h2 h3)
theorem r_i2s (X : FX ad E cc nL own ret fr lo) {x : Int32} (hd : decode cc pc = .ok (.i2s, 1)) (kk : KK ad E Q (pc + 1) L (.int x.toInt16.toInt32 :: st) σ) : KK ad E Q (pc) L (.int x :: st) σ := by
  obtain ⟨p, l, e, R, s, m, args, below, meth, c9, G⟩ := E
  intro H locs ls h1 h2 h3
  exact lv_i2s X.1 X.2.1 hd rfl (kk H locs ls h1 h2 h3)
theorem r_lcmp (X : FX ad E cc nL own ret fr lo) {x y : Int64} (hd : decode cc pc = .ok (.lcmp, 1)) (kk : KK ad E Q (pc + 1) L (.int (lg_cmp x y) :: st) σ) : KK ad E Q (pc) L (.long y :: .long x :: st) σ := by
  obtain ⟨p, l, e, R, s, m, args, below, meth, c9, G⟩ := E
  intro H locs ls h1 h2 h3
  exact W.lcmp X.1 X.2.1 hd (kk H locs ls h1 h2 h3)
theorem r_dup (X : FX ad E cc nL own ret fr lo) {v : Value} (hd : decode cc pc = .ok (.dup, 1)) (hv : v.category = 1) (kk : KK ad E Q (pc + 1) L (v :: v :: st) σ) : KK ad E Q (pc) L (v :: st) σ := by
  obtain ⟨p, l, e, R, s, m, args, below, meth, c9, G⟩ := E
  intro H locs ls h1 h2 h3
  exact lv_dup X.1 X.2.1 hd hv (kk H locs ls h1 h2 h3)
theorem r_pop (X : FX ad E cc nL own ret fr lo) {v : Value} (hd : decode cc pc = .ok (.pop, 1)) (hv : v.category = 1) (kk : KK ad E Q (pc + 1) L (st) σ) : KK ad E Q (pc) L (v :: st) σ := by
  obtain ⟨p, l, e, R, s, m, args, below, meth, c9, G⟩ := E
  intro H locs ls h1 h2 h3
  exact lv_pop X.1 X.2.1 hd hv (kk H locs ls h1 h2 h3)
theorem r_dup2 (X : FX ad E cc nL own ret fr lo) {v w : Value} (hd : decode cc pc = .ok (.dup2, 1)) (hv : v.category = 1) (hw : w.category = 1) (kk : KK ad E Q (pc + 1) L (v :: w :: v :: w :: st) σ) : KK ad E Q (pc) L (v :: w :: st) σ := by
  obtain ⟨p, l, e, R, s, m, args, below, meth, c9, G⟩ := E
  intro H locs ls h1 h2 h3
  exact lv_dup2_11 X.1 X.2.1 hd hv hw (kk H locs ls h1 h2 h3)
theorem r_if_eq (X : FX ad E cc nL own ret fr lo) {x : Int32} {off : Int} (tgt : Nat) (hd : decode cc pc = .ok (.ifCond .eq off, 3)) (ht : (pc : Int) + off = (tgt : Int)) (kt : x = 0 → KK ad E Q (tgt) L (st) σ) (kf : ¬ x = 0 → KK ad E Q (pc + 3) L (st) σ) : KK ad E Q (pc) L (.int x :: st) σ := by
  obtain ⟨p, l, e, R, s, m, args, below, meth, c9, G⟩ := E
  intro H locs ls h1 h2 h3
  exact lv_if_eq X.1 X.2.1 hd ht (fun q => kt q H locs ls h1 h2 h3) (fun q => kf q H locs ls h1 h2 h3)
theorem r_if_ne (X : FX ad E cc nL own ret fr lo) {x : Int32} {off : Int} (tgt : Nat) (hd : decode cc pc = .ok (.ifCond .ne off, 3)) (ht : (pc : Int) + off = (tgt : Int)) (kt : ¬ x = 0 → KK ad E Q (tgt) L (st) σ) (kf : x = 0 → KK ad E Q (pc + 3) L (st) σ) : KK ad E Q (pc) L (.int x :: st) σ := by
  obtain ⟨p, l, e, R, s, m, args, below, meth, c9, G⟩ := E
  intro H locs ls h1 h2 h3
  exact lv_if_ne X.1 X.2.1 hd ht (fun q => kt q H locs ls h1 h2 h3) (fun q => kf q H locs ls h1 h2 h3)
theorem r_if_lt (X : FX ad E cc nL own ret fr lo) {x : Int32} {off : Int} (tgt : Nat) (hd : decode cc pc = .ok (.ifCond .lt off, 3)) (ht : (pc : Int) + off = (tgt : Int)) (kt : x < 0 → KK ad E Q (tgt) L (st) σ) (kf : ¬ x < 0 → KK ad E Q (pc + 3) L (st) σ) : KK ad E Q (pc) L (.int x :: st) σ := by
  obtain ⟨p, l, e, R, s, m, args, below, meth, c9, G⟩ := E
  intro H locs ls h1 h2 h3
  exact lv_if_lt X.1 X.2.1 hd ht (fun q => kt q H locs ls h1 h2 h3) (fun q => kf q H locs ls h1 h2 h3)
theorem r_if_ge (X : FX ad E cc nL own ret fr lo) {x : Int32} {off : Int} (tgt : Nat) (hd : decode cc pc = .ok (.ifCond .ge off, 3)) (ht : (pc : Int) + off = (tgt : Int)) (kt : 0 ≤ x → KK ad E Q (tgt) L (st) σ) (kf : ¬ 0 ≤ x → KK ad E Q (pc + 3) L (st) σ) : KK ad E Q (pc) L (.int x :: st) σ := by
  obtain ⟨p, l, e, R, s, m, args, below, meth, c9, G⟩ := E
  intro H locs ls h1 h2 h3
  exact lv_if_ge X.1 X.2.1 hd ht (fun q => kt q H locs ls h1 h2 h3) (fun q => kf q H locs ls h1 h2 h3)
theorem r_if_gt (X : FX ad E cc nL own ret fr lo) {x : Int32} {off : Int} (tgt : Nat) (hd : decode cc pc = .ok (.ifCond .gt off, 3)) (ht : (pc : Int) + off = (tgt : Int)) (kt : 0 < x → KK ad E Q (tgt) L (st) σ) (kf : ¬ 0 < x → KK ad E Q (pc + 3) L (st) σ) : KK ad E Q (pc) L (.int x :: st) σ := by
  obtain ⟨p, l, e, R, s, m, args, below, meth, c9, G⟩ := E
  intro H locs ls h1 h2 h3
  exact lv_if_gt X.1 X.2.1 hd ht (fun q => kt q H locs ls h1 h2 h3) (fun q => kf q H locs ls h1 h2 h3)
theorem r_if_le (X : FX ad E cc nL own ret fr lo) {x : Int32} {off : Int} (tgt : Nat) (hd : decode cc pc = .ok (.ifCond .le off, 3)) (ht : (pc : Int) + off = (tgt : Int)) (kt : x ≤ 0 → KK ad E Q (tgt) L (st) σ) (kf : ¬ x ≤ 0 → KK ad E Q (pc + 3) L (st) σ) : KK ad E Q (pc) L (.int x :: st) σ := by
  obtain ⟨p, l, e, R, s, m, args, below, meth, c9, G⟩ := E
  intro H locs ls h1 h2 h3
  exact lv_if_le X.1 X.2.1 hd ht (fun q => kt q H locs ls h1 h2 h3) (fun q => kf q H locs ls h1 h2 h3)
theorem r_icmp_eq (X : FX ad E cc nL own ret fr lo) {x y : Int32} {off : Int} (tgt : Nat) (hd : decode cc pc = .ok (.if_icmp .eq off, 3)) (ht : (pc : Int) + off = (tgt : Int)) (kt : x = y → KK ad E Q (tgt) L (st) σ) (kf : ¬ x = y → KK ad E Q (pc + 3) L (st) σ) : KK ad E Q (pc) L (.int y :: .int x :: st) σ := by
  obtain ⟨p, l, e, R, s, m, args, below, meth, c9, G⟩ := E
  intro H locs ls h1 h2 h3
  exact lv_icmp_eq X.1 X.2.1 hd ht (fun q => kt q H locs ls h1 h2 h3) (fun q => kf q H locs ls h1 h2 h3)
theorem r_icmp_ne (X : FX ad E cc nL own ret fr lo) {x y : Int32} {off : Int} (tgt : Nat) (hd : decode cc pc = .ok (.if_icmp .ne off, 3)) (ht : (pc : Int) + off = (tgt : Int)) (kt : ¬ x = y → KK ad E Q (tgt) L (st) σ) (kf : x = y → KK ad E Q (pc + 3) L (st) σ) : KK ad E Q (pc) L (.int y :: .int x :: st) σ := by
  obtain ⟨p, l, e, R, s, m, args, below, meth, c9, G⟩ := E
  intro H locs ls h1 h2 h3
  exact lv_icmp_ne X.1 X.2.1 hd ht (fun q => kt q H locs ls h1 h2 h3) (fun q => kf q H locs ls h1 h2 h3)
theorem r_icmp_lt (X : FX ad E cc nL own ret fr lo) {x y : Int32} {off : Int} (tgt : Nat) (hd : decode cc pc = .ok (.if_icmp .lt off, 3)) (ht : (pc : Int) + off = (tgt : Int)) (kt : x < y → KK ad E Q (tgt) L (st) σ) (kf : ¬ x < y → KK ad E Q (pc + 3) L (st) σ) : KK ad E Q (pc) L (.int y :: .int x :: st) σ := by
  obtain ⟨p, l, e, R, s, m, args, below, meth, c9, G⟩ := E
  intro H locs ls h1 h2 h3
  exact lv_icmp_lt X.1 X.2.1 hd ht (fun q => kt q H locs ls h1 h2 h3) (fun q => kf q H locs ls h1 h2 h3)
theorem r_icmp_ge (X : FX ad E cc nL own ret fr lo) {x y : Int32} {off : Int} (tgt : Nat) (hd : decode cc pc = .ok (.if_icmp .ge off, 3)) (ht : (pc : Int) + off = (tgt : Int)) (kt : y ≤ x → KK ad E Q (tgt) L (st) σ) (kf : ¬ y ≤ x → KK ad E Q (pc + 3) L (st) σ) : KK ad E Q (pc) L (.int y :: .int x :: st) σ := by
  obtain ⟨p, l, e, R, s, m, args, below, meth, c9, G⟩ := E
  intro H locs ls h1 h2 h3
  exact lv_icmp_ge X.1 X.2.1 hd ht (fun q => kt q H locs ls h1 h2 h3) (fun q => kf q H locs ls h1 h2 h3)
theorem r_icmp_gt (X : FX ad E cc nL own ret fr lo) {x y : Int32} {off : Int} (tgt : Nat) (hd : decode cc pc = .ok (.if_icmp .gt off, 3)) (ht : (pc : Int) + off = (tgt : Int)) (kt : y < x → KK ad E Q (tgt) L (st) σ) (kf : ¬ y < x → KK ad E Q (pc + 3) L (st) σ) : KK ad E Q (pc) L (.int y :: .int x :: st) σ := by
  obtain ⟨p, l, e, R, s, m, args, below, meth, c9, G⟩ := E
  intro H locs ls h1 h2 h3
  exact lv_icmp_gt X.1 X.2.1 hd ht (fun q => kt q H locs ls h1 h2 h3) (fun q => kf q H locs ls h1 h2 h3)
theorem r_icmp_le (X : FX ad E cc nL own ret fr lo) {x y : Int32} {off : Int} (tgt : Nat) (hd : decode cc pc = .ok (.if_icmp .le off, 3)) (ht : (pc : Int) + off = (tgt : Int)) (kt : x ≤ y → KK ad E Q (tgt) L (st) σ) (kf : ¬ x ≤ y → KK ad E Q (pc + 3) L (st) σ) : KK ad E Q (pc) L (.int y :: .int x :: st) σ := by
  obtain ⟨p, l, e, R, s, m, args, below, meth, c9, G⟩ := E
  intro H locs ls h1 h2 h3
  exact lv_icmp_le X.1 X.2.1 hd ht (fun q => kt q H locs ls h1 h2 h3) (fun q => kf q H locs ls h1 h2 h3)
theorem r_goto (X : FX ad E cc nL own ret fr lo) {off : Int} (tgt : Nat) (hd : decode cc pc = .ok (.goto off, 3)) (ht : (pc : Int) + off = (tgt : Int)) (kk : KK ad E Q (tgt) L (st) σ) : KK ad E Q (pc) L (st) σ := by
  obtain ⟨p, l, e, R, s, m, args, below, meth, c9, G⟩ := E
  intro H locs ls h1 h2 h3
  exact lv_goto X.1 X.2.1 hd ht (kk H locs ls h1 h2 h3)
theorem r_ifnonnull (X : FX ad E cc nL own ret fr lo) {x : Nat} {off : Int} (tgt : Nat) (hd : decode cc pc = .ok (.ifnonnull off, 3)) (ht : (pc : Int) + off = (tgt : Int)) (kk : KK ad E Q (tgt) L (st) σ) : KK ad E Q (pc) L (.ref x :: st) σ := by
  obtain ⟨p, l, e, R, s, m, args, below, meth, c9, G⟩ := E
  intro H locs ls h1 h2 h3
  exact lv_ifnonnull X.1 X.2.1 hd ht (kk H locs ls h1 h2 h3)
theorem r_ifnull (X : FX ad E cc nL own ret fr lo) {x : Nat} {off : Int} (hd : decode cc pc = .ok (.ifnull off, 3)) (kk : KK ad E Q (pc + 3) L (st) σ) : KK ad E Q (pc) L (.ref x :: st) σ := by
  obtain ⟨p, l, e, R, s, m, args, below, meth, c9, G⟩ := E
  intro H locs ls h1 h2 h3
  exact lv_ifnull X.1 X.2.1 hd (kk H locs ls h1 h2 h3)
theorem r_ifnullN (X : FX ad E cc nL own ret fr lo) {off : Int} (tgt : Nat) (hd : decode cc pc = .ok (.ifnull off, 3)) (ht : (pc : Int) + off = (tgt : Int)) (kk : KK ad E Q (tgt) L (st) σ) : KK ad E Q (pc) L (.null :: st) σ := by
  obtain ⟨p, l, e, R, s, m, args, below, meth, c9, G⟩ := E
  intro H locs ls h1 h2 h3
  exact lv_ifnullN X.1 X.2.1 hd ht (kk H locs ls h1 h2 h3)
theorem r_ifnonnullN (X : FX ad E cc nL own ret fr lo) {off : Int} (hd : decode cc pc = .ok (.ifnonnull off, 3)) (kk : KK ad E Q (pc + 3) L (st) σ) : KK ad E Q (pc) L (.null :: st) σ := by
  obtain ⟨p, l, e, R, s, m, args, below, meth, c9, G⟩ := E
  intro H locs ls h1 h2 h3
  exact lv_ifnonnullN X.1 X.2.1 hd (kk H locs ls h1 h2 h3)
theorem r_tabIn (X : FX ad E cc nL own ret fr lo) {dflt lo1 hi1 : Int} {offs : Array Int} {len : Nat} {x : Int32} {off : Int} (tgt : Nat) (hd : decode cc pc = .ok (.tableswitch dflt lo1 hi1 offs, len)) (g1 : ¬ x.toInt < lo1) (g2 : ¬ hi1 < x.toInt) (ho : offs[(x.toInt - lo1).toNat]? = some off) (ht : (pc : Int) + off = (tgt : Int)) (kk : KK ad E Q (tgt) L (st) σ) : KK ad E Q (pc) L (.int x :: st) σ := by
  obtain ⟨p, l, e, R, s, m, args, below, meth, c9, G⟩ := E
  intro H locs ls h1 h2 h3
  exact lv_tableIn X.1 X.2.1 hd g1 g2 ho ht (kk H locs ls h1 h2 h3)
theorem r_tabOut (X : FX ad E cc nL own ret fr lo) {dflt lo1 hi1 : Int} {offs : Array Int} {len : Nat} {x : Int32} (tgt : Nat) (hd : decode cc pc = .ok (.tableswitch dflt lo1 hi1 offs, len)) (g1 : x.toInt < lo1 ∨ hi1 < x.toInt) (ht : (pc : Int) + dflt = (tgt : Int)) (kk : KK ad E Q (tgt) L (st) σ) : KK ad E Q (pc) L (.int x :: st) σ := by
  obtain ⟨p, l, e, R, s, m, args, below, meth, c9, G⟩ := E
  intro H locs ls h1 h2 h3
  exact lv_tableOut X.1 X.2.1 hd g1 ht (kk H locs ls h1 h2 h3)
theorem r_iret (X : FX ad E cc nL own ret fr lo) (hr0 : ret = some .int) {v : Int32} (hd : decode cc pc = .ok (.ireturn, 1)) (hq : Q (some (.int v)) σ) : KK ad E Q pc L [.int v] σ := by
  obtain ⟨p, l, e, R, s, m, args, below, meth, c9, G⟩ := E
  intro H locs ls h1 h2 h3
  obtain ⟨hx, hb, -, -, -, -, -, hr, hlk, -, -⟩ := X
  subst hr0
  exact W.iret hx hb hr (fun t ht hW => ⟨⟨_, σ, rfl, hq, by rw [ht]; exact h2⟩, h3.F ht⟩) h3.2.2 hd hlk
theorem r_zret (X : FX ad E cc nL own ret fr lo) (hr0 : ret = some .boolean) {v : Int32} (hd : decode cc pc = .ok (.ireturn, 1)) (hv : v = 0 ∨ v = 1) (hq : Q (some (.int v)) σ) : KK ad E Q pc L [.int v] σ := by
  obtain ⟨p, l, e, R, s, m, args, below, meth, c9, G⟩ := E
  intro H locs ls h1 h2 h3
  obtain ⟨hx, hb, -, -, -, -, -, hr, hlk, -, -⟩ := X
  subst hr0
  exact W.zret hx hb hr (by rcases hv with rfl | rfl <;> rfl) (fun t ht hW => ⟨⟨_, σ, rfl, hq, by rw [ht]; exact h2⟩, h3.F ht⟩) h3.2.2 hd hlk
theorem r_lret (X : FX ad E cc nL own ret fr lo) (hr0 : ret = some .long) {v : Int64} (hd : decode cc pc = .ok (.lreturn, 1)) (hq : Q (some (.long v)) σ) : KK ad E Q pc L [.long v] σ := by
  obtain ⟨p, l, e, R, s, m, args, below, meth, c9, G⟩ := E
  intro H locs ls h1 h2 h3
  obtain ⟨hx, hb, -, -, -, -, -, hr, hlk, -, -⟩ := X
  subst hr0
  exact W.lret hx hb hr (fun t ht hW => ⟨⟨_, σ, rfl, hq, by rw [ht]; exact h2⟩, h3.F ht⟩) h3.2.2 hd hlk
theorem r_vret (X : FX ad E cc nL own ret fr lo) (hr0 : ret = none) (hd : decode cc pc = .ok (.return_, 1)) (hq : Q none σ) : KK ad E Q pc L [] σ := by
  obtain ⟨p, l, e, R, s, m, args, below, meth, c9, G⟩ := E
  intro H locs ls h1 h2 h3
  obtain ⟨hx, hb, -, -, -, -, -, hr, hlk, -, -⟩ := X
  subst hr0
  exact W.vret hx hb hr (fun t ht hW => ⟨⟨_, σ, rfl, hq, by rw [ht]; exact h2⟩, h3.F ht⟩) h3.2.2 hd hlk
theorem r_aret (X : FX ad E cc nL own ret fr lo) {C : String} (hr0 : ret = some (.object C)) {a : Nat} (hd : decode cc pc = .ok (.areturn, 1)) (hq : Q (some (.ref a)) σ) : KK ad E Q pc L [.ref a] σ := by
  obtain ⟨p, l, e, R, s, m, args, below, meth, c9, G⟩ := E
  intro H locs ls h1 h2 h3
  obtain ⟨hx, hb, -, -, -, -, -, hr, hlk, -, -⟩ := X
  subst hr0
  exact W.aret hx hb hr (Or.inl ⟨_, rfl⟩) (Or.inr ⟨_, rfl⟩) (fun t ht hW => ⟨⟨_, σ, rfl, hq, by rw [ht]; exact h2⟩, h3.F ht⟩) h3.2.2 hd hlk
theorem r_aretN (X : FX ad E cc nL own ret fr lo) {C : String} (hr0 : ret = some (.object C)) (hd : decode cc pc = .ok (.areturn, 1)) (hq : Q (some .null) σ) : KK ad E Q pc L [.null] σ := by
  obtain ⟨p, l, e, R, s, m, args, below, meth, c9, G⟩ := E
  intro H locs ls h1 h2 h3
  obtain ⟨hx, hb, -, -, -, -, -, hr, hlk, -, -⟩ := X
  subst hr0
  exact W.aret hx hb hr (Or.inl ⟨_, rfl⟩) (Or.inl rfl) (fun t ht hW => ⟨⟨_, σ, rfl, hq, by rw [ht]; exact h2⟩, h3.F ht⟩) h3.2.2 hd hlk
theorem r_get (X : FX ad E cc nL own ret fr lo) {o c N : Nat} {R1 ref : String} {T : u_T} {index : Nat} (ho : x_cl o = c) (h8 : c < 8) (hcl : x_cls[c]? = some (R1, T, N)) (hin : ∀ w ∈ u_ws R1 T N, w ∈ x_big) (k : Nat) (hk : k < N) (href : (T k).1 = ref) (hlink : Cond.fieldLink own index ref (T k).2.1 (T k).2.2.1 ∈ x_big) {v : Value} (hv : (x_fl ad σ c o)[k]? = some v) (hd : decode cc pc = .ok (.getfield index, 3)) (kk : KK ad E Q (pc + 3) L (v :: st) σ) : KK ad E Q (pc) L (.ref (ad o 0 0) :: st) σ := by
  obtain ⟨p, l, e, R, s, m, args, below, meth, c9, G⟩ := E
  intro H locs ls h1 h2 h3
  subst href
  exact va_get X.1 X.2.1 X.2.2.2.2.1 hin X.2.2.2.1 X.2.2.2.2.2.1.1 (h2.one (x_ent_o ho h8)) 0 rfl hcl k hk (X.2.2.2.2.1 _ hlink) (fun _ q => q) hv hd (kk H locs ls h1 h2 h3)
theorem r_getN (X : FX ad E cc nL own ret fr lo) {o c N : Nat} {R1 ref host : String} {T : u_T} {index : Nat} (ho : x_cl o = c) (h8 : c < 8) (hcl : x_cls[c]? = some (R1, T, N)) (hin : ∀ w ∈ u_ws R1 T N, w ∈ x_big) (k : Nat) (hk : k < N) (href : (T k).1 = ref) (hlink : (own, index, ref, (T k).2.1, (T k).2.2.1, host) ∈ x_nf) {v : Value} (hv : (x_fl ad σ c o)[k]? = some v) (hd : decode cc pc = .ok (.getfield index, 3)) (kk : KK ad E Q (pc + 3) L (v :: st) σ) : KK ad E Q (pc) L (.ref (ad o 0 0) :: st) σ := by
  obtain ⟨p, l, e, R, s, m, args, below, meth, c9, G⟩ := E
  intro H locs ls h1 h2 h3
  subst href
  exact va_getN (host := host) X.1 X.2.1 X.2.2.2.2.1 hin X.2.2.2.1 X.2.2.2.2.2.1.1 (h2.one (x_ent_o ho h8)) 0 rfl hcl k hk (va_Nw.use rfl (X.2.2.2.2.2.1.2.1 _ hlink)) (fun _ q => q) hv hd (kk H locs ls h1 h2 h3)
theorem r_put (X : FX ad E cc nL own ret fr lo) {o c N : Nat} {R1 ref : String} {T : u_T} {index : Nat} (ho : x_cl o = c) (h8 : c < 8) (hcl : x_cls[c]? = some (R1, T, N)) (hin : ∀ w ∈ u_ws R1 T N, w ∈ x_big) (ty0 : Nat → FieldType) (hty : ∀ k, k < N → parseFieldDescriptor (T k).2.2.1 = some (ty0 k)) (hnm : ∀ a, a < N → ∀ b, b < N → a ≠ b → (T a).2.1 ≠ (T b).2.1) (k : Nat) (hk : k < N) (href : (T k).1 = ref) (hlink : Cond.fieldLink own index ref (T k).2.1 (T k).2.2.1 ∈ x_big) (hfin : (T k).2.2.2 = false) {ty : FieldType} {v : Int32} (hdd : parseFieldDescriptor (T k).2.2.1 = some ty) (hn : narrow ty (.int v) = .int v) (hfit : fits ty (.int v) = true) (hl : k < (x_fl ad σ c o).length) (hset : x_fl ad (xsI σ o k v) c o = (x_fl ad σ c o).set k (.int v)) (hd : decode cc pc = .ok (.putfield index, 3)) (kk : KK ad E Q (pc + 3) L (st) (xsI σ o k v)) : KK ad E Q (pc) L (.int v :: .ref (ad o 0 0) :: st) σ := by
  obtain ⟨p, l, e, R, s, m, args, below, meth, c9, G⟩ := E
  intro H locs ls h1 h2 h3
  subst href
  obtain ⟨hx, hb, -, hown, hts, hV, hJ, -, -, -, -⟩ := X
  have hK := hV.1
  have hin2 : ∀ w ∈ u_ws R1 T N, w ∈ x_big := hin
  have hap := va_apart (own := own) hts hin2 ty0 hty hnm hK hcl
  have he0 := x_ent_o (ad := ad) (G := G) (σ := σ) ho h8
  obtain ⟨r, g1, cell, q1, q2, q3, q4⟩ := h2 o 0 0 _ he0
  have hr : r = (R1, T, N) := Option.some.inj (g1.symm.trans hcl)
  subst hr
  obtain ⟨hS, hfc, kC, hkC, hkind⟩ := hK.1 c _ hcl
  obtain ⟨cf, kf, fi, f, hi, hsl⟩ := hS k hk
  have hlay := hts _ (hin2 _ (u_in_lay hk))
  unfold u_lay at hlay
  rw [if_neg (by rw [hfin]; decide)] at hlay
  have hst := (u_facts hfc hkC (u_lays hts hin2 hk) hi).1
  have h6 := u_store hfc hkC hkind hlay hi hdd hn hfit
  refine W.putK hx hb (f := f) ⟨hown, hts _ hlink, ⟨_, _, _, hi⟩, hst⟩ (by rw [q2]; exact h6) q1 q3 (by rw [hsl]; exact k2_hasslot (q4 k hk)) rfl rfl hd fun H' e1 e2 e3 => ?_
  rw [hsl] at e1 ⊢
  refine kk H' _ ls h1 (h2.set (e := .inr (c, (x_fl ad σ c o).set k (.int v))) hJ (x_ent_dom he0) (by rw [x_ent_o ho h8, hset]) (fun o' f' r' q => x_ent_setI q) ⟨_, hcl, t_OB.to (V := updV (vp_V (x_fl ad σ c o)) k (.int v)) ⟨_, e1, q2, q3, t_set q4 hap hk _⟩ (fun j _ => vp_updV_set hl _ j)⟩ e3) (h3.put e2 e3 ⟨o, 0, 0, x_ent_dom he0, rfl⟩)
theorem r_putN (X : FX ad E cc nL own ret fr lo) {o c N : Nat} {R1 ref host : String} {T : u_T} {index : Nat} (ho : x_cl o = c) (h8 : c < 8) (hcl : x_cls[c]? = some (R1, T, N)) (hin : ∀ w ∈ u_ws R1 T N, w ∈ x_big) (ty0 : Nat → FieldType) (hty : ∀ k, k < N → parseFieldDescriptor (T k).2.2.1 = some (ty0 k)) (hnm : ∀ a, a < N → ∀ b, b < N → a ≠ b → (T a).2.1 ≠ (T b).2.1) (k : Nat) (hk : k < N) (href : (T k).1 = ref) (hlink : (own, index, ref, (T k).2.1, (T k).2.2.1, host) ∈ x_nf) (hfin : (T k).2.2.2 = false) {ty : FieldType} {v : Int32} (hdd : parseFieldDescriptor (T k).2.2.1 = some ty) (hn : narrow ty (.int v) = .int v) (hfit : fits ty (.int v) = true) (hl : k < (x_fl ad σ c o).length) (hset : x_fl ad (xsI σ o k v) c o = (x_fl ad σ c o).set k (.int v)) (hd : decode cc pc = .ok (.putfield index, 3)) (kk : KK ad E Q (pc + 3) L (st) (xsI σ o k v)) : KK ad E Q (pc) L (.int v :: .ref (ad o 0 0) :: st) σ := by
  obtain ⟨p, l, e, R, s, m, args, below, meth, c9, G⟩ := E
  intro H locs ls h1 h2 h3
  subst href
  obtain ⟨hx, hb, -, hown, hts, hV, hJ, -, -, -, -⟩ := X
  have hK := hV.1
  have hin2 : ∀ w ∈ u_ws R1 T N, w ∈ x_big := hin
  have hap := va_apart (own := own) hts hin2 ty0 hty hnm hK hcl
  have he0 := x_ent_o (ad := ad) (G := G) (σ := σ) ho h8
  obtain ⟨r, g1, cell, q1, q2, q3, q4⟩ := h2 o 0 0 _ he0
  have hr : r = (R1, T, N) := Option.some.inj (g1.symm.trans hcl)
  subst hr
  obtain ⟨hS, hfc, kC, hkC, hkind⟩ := hK.1 c _ hcl
  obtain ⟨cf, kf, fi, f, hi, hsl⟩ := hS k hk
  have hlay := hts _ (hin2 _ (u_in_lay hk))
  unfold u_lay at hlay
  rw [if_neg (by rw [hfin]; decide)] at hlay
  have hst := (u_facts hfc hkC (u_lays hts hin2 hk) hi).1
  have h6 := u_store hfc hkC hkind hlay hi hdd hn hfit
  refine va_WputK hx hb (f := f) (host := host) hown (va_Nw.use rfl (hV.2.1 _ hlink)) hi hst (by rw [q2]; exact h6) q1 q3 (by rw [hsl]; exact k2_hasslot (q4 k hk)) rfl rfl hd fun H' e1 e2 e3 => ?_
  rw [hsl] at e1 ⊢
  refine kk H' _ ls h1 (h2.set (e := .inr (c, (x_fl ad σ c o).set k (.int v))) hJ (x_ent_dom he0) (by rw [x_ent_o ho h8, hset]) (fun o' f' r' q => x_ent_setI q) ⟨_, hcl, t_OB.to (V := updV (vp_V (x_fl ad σ c o)) k (.int v)) ⟨_, e1, q2, q3, t_set q4 hap hk _⟩ (fun j _ => vp_updV_set hl _ j)⟩ e3) (h3.put e2 e3 ⟨o, 0, 0, x_ent_dom he0, rfl⟩)
theorem r_iald (X : FX ad E cc nL own ret fr lo) {o c k n : Nat} (ho : x_cl o = c) (ha : x_ar c o k = some (0, n)) {i : Int32} (hin : vp_in i n) (hd : decode cc pc = .ok (.iaload, 1)) (kk : KK ad E Q (pc + 1) L (.int (xA σ o k i.toNatClampNeg) :: st) σ) : KK ad E Q (pc) L (.int i :: .ref (ad o (k + 1) 0) :: st) σ := by
  obtain ⟨p, l, e, R, s, m, args, below, meth, c9, G⟩ := E
  intro H locs ls h1 h2 h3
  subst ho
  exact va_iald X.1 X.2.1 X.2.2.2.2.2.1.1 (h2.one (x_ent_a ha)) 0 0 rfl rfl hin hd (kk H locs ls h1 h2 h3)
theorem r_zald (X : FX ad E cc nL own ret fr lo) {o c k n : Nat} (ho : x_cl o = c) (ha : x_ar c o k = some (1, n)) {i : Int32} (hin : vp_in i n) (hd : decode cc pc = .ok (.baload, 1)) (kk : KK ad E Q (pc + 1) L (.int (xA σ o k i.toNatClampNeg) :: st) σ) : KK ad E Q (pc) L (.int i :: .ref (ad o (k + 1) 0) :: st) σ := by
  obtain ⟨p, l, e, R, s, m, args, below, meth, c9, G⟩ := E
  intro H locs ls h1 h2 h3
  subst ho
  exact va_zald X.1 X.2.1 X.2.2.2.2.2.1.1 (h2.one (x_ent_z ha)) 0 1 rfl rfl hin hd (kk H locs ls h1 h2 h3)
theorem r_iald2 (X : FX ad E cc nL own ret fr lo) {o c k n : Nat} (ho : x_cl o = c) (ha : x_ar c o k = some (2, n)) {r i : Int32} (hr : vp_in r 20) (hin : vp_in i n) (hd : decode cc pc = .ok (.iaload, 1)) (kk : KK ad E Q (pc + 1) L (.int (xB σ o k r.toNatClampNeg i.toNatClampNeg) :: st) σ) : KK ad E Q (pc) L (.int i :: .ref (ad o (k + 1) (r.toNatClampNeg + 1)) :: st) σ := by
  obtain ⟨p, l, e, R, s, m, args, below, meth, c9, G⟩ := E
  intro H locs ls h1 h2 h3
  subst ho
  exact va_iald X.1 X.2.1 X.2.2.2.2.2.1.1 (h2.one (x_ent_r ha (Nat.not_le.mp fun q => hr (Or.inr q)))) 0 0 rfl rfl hin hd (kk H locs ls h1 h2 h3)
theorem r_alen (X : FX ad E cc nL own ret fr lo) {o c k n : Nat} (ho : x_cl o = c) (ha : x_ar c o k = some (0, n)) {v : Int32} (hv : Int32.ofNat n = v) (hd : decode cc pc = .ok (.arraylength, 1)) (kk : KK ad E Q (pc + 1) L (.int v :: st) σ) : KK ad E Q (pc) L (.ref (ad o (k + 1) 0) :: st) σ := by
  obtain ⟨p, l, e, R, s, m, args, below, meth, c9, G⟩ := E
  intro H locs ls h1 h2 h3
  subst ho
  exact va_alen X.1 X.2.1 X.2.2.2.2.2.1.1 (h2.one (x_ent_a ha)) 0 0 rfl rfl hv hd (kk H locs ls h1 h2 h3)
theorem r_aald (X : FX ad E cc nL own ret fr lo) {o c k n : Nat} (ho : x_cl o = c) (ha : x_ar c o k = some (2, n)) {i : Int32} (hin : vp_in i 20) (hd : decode cc pc = .ok (.aaload, 1)) (kk : KK ad E Q (pc + 1) L (.ref (ad o (k + 1) (i.toNatClampNeg + 1)) :: st) σ) : KK ad E Q (pc) L (.int i :: .ref (ad o (k + 1) 0) :: st) σ := by
  obtain ⟨p, l, e, R, s, m, args, below, meth, c9, G⟩ := E
  intro H locs ls h1 h2 h3
  subst ho
  have hlt : i.toNatClampNeg < 20 := Nat.not_le.mp fun q => hin (Or.inr q)
  have hc : H[ad o (k + 1) 0]? = some (vp_cell G.2.2.2.2 (20, .inr (.inr (.inr (.inr (x_q ad o k)))))) := h2 o (k + 1) 0 _ (x_ent_g ha)
  have hv : va_rf (x_q ad o k i.toNatClampNeg) = .ref (ad o (k + 1) (i.toNatClampNeg + 1)) := by unfold x_q; rw [if_pos hlt]; rfl
  obtain ⟨N, hN⟩ : ∃ N : Nat, N = 20 := ⟨20, rfl⟩
  rw [← hN] at hin hc hlt
  exact W.aald (v := .ref (ad o (k + 1) (i.toNatClampNeg + 1))) (ty := .array .int) X.1 X.2.1 hc ((X.2.2.2.2.2.1.1.2 3 _ rfl).1 N (fun j => va_rf (x_q ad o k j))) rfl (fun q => by cases q) (by show ¬ (i < 0 ∨ (arrV _ _ _).slots.size ≤ _); rw [arrV_size]; exact hin) (by show (arrV _ _ _).slots[_]? = _; rw [arrV_read _ _ hlt]; rw [hv]) rfl rfl hd (kk H locs ls h1 h2 h3)
theorem r_aaldS (X : FX ad E cc nL own ret fr lo) {i : Int32} (hin : vp_in i 4) (hd : decode cc pc = .ok (.aaload, 1)) (kk : KK ad E Q (pc + 1) L (.ref (ad (9 + i.toNatClampNeg) 0 0) :: st) σ) : KK ad E Q (pc) L (.int i :: .ref (ad 0 9 0) :: st) σ := by
  obtain ⟨p, l, e, R, s, m, args, below, meth, c9, G⟩ := E
  intro H locs ls h1 h2 h3
  have hlt : i.toNatClampNeg < 4 := Nat.not_le.mp fun q => hin (Or.inr q)
  have hc : H[ad 0 9 0]? = some (vp_cell G.2.2.2.1 (4, .inr (.inr (.inr (.inr (x_sh ad)))))) := h2 0 9 0 _ rfl
  exact W.aald (v := .ref (ad (9 + i.toNatClampNeg) 0 0)) (ty := .object "WoodliceSenate$Sheet") X.1 X.2.1 hc ((X.2.2.2.2.2.1.1.2 2 _ rfl).1 4 (fun j => va_rf (x_sh ad j))) rfl (fun q => by cases q) (by show ¬ (i < 0 ∨ (arrV _ _ _).slots.size ≤ _); rw [arrV_size]; exact hin) (by show (arrV _ _ _).slots[_]? = _; rw [arrV_read _ _ hlt]; show some (va_rf (x_sh ad _)) = _; unfold x_sh; rw [if_pos hlt]; rfl) rfl rfl hd (kk H locs ls h1 h2 h3)
theorem r_iast (X : FX ad E cc nL own ret fr lo) {o c k n : Nat} (ho : x_cl o = c) (ha : x_ar c o k = some (0, n)) {i x : Int32} (hin : vp_in i n) (hd : decode cc pc = .ok (.iastore, 1)) (kk : KK ad E Q (pc + 1) L (st) (xuA σ o k i.toNatClampNeg x)) : KK ad E Q (pc) L (.int x :: .int i :: .ref (ad o (k + 1) 0) :: st) σ := by
  obtain ⟨p, l, e, R, s, m, args, below, meth, c9, G⟩ := E
  intro H locs ls h1 h2 h3
  subst ho
  obtain ⟨hx, hb, -, -, -, hV, hJ, -, -, -, -⟩ := X
  have he0 := x_ent_a (ad := ad) (G := G) (σ := σ) ha
  have hc : H[ad o (k + 1) 0]? = some (vp_cell _ _) := h2 _ _ _ _ he0
  refine W.iast hx hb hc ((hV.1.2 0 _ rfl).1 n (fun j => .int (xA σ o k j))) (fun q => by cases q) (by show ¬ (i < 0 ∨ (arrV _ _ _).slots.size ≤ _); rw [arrV_size]; exact hin) rfl rfl hd fun H1 e z oq => ?_
  refine kk H1 _ ls h1 (h2.set hJ (x_ent_dom he0) (x_ent_a ha) (fun o' f' r' q => x_ent_setA q) ?_ oq) (h3.put z oq ⟨_, _, _, x_ent_dom he0, rfl⟩)
  show H1[ad o (k + 1) 0]? = some (vp_cell _ _)
  rw [e]
  rw [vp_cell_i, vp_cell_i, arrV_store]
  congr 2
  funext q
  
  by_cases hq : q = i.toNatClampNeg
  · subst hq
    simp [updV, upd, vp_nar, xuA, xsA, xA]
    try rfl
  · simp [updV, upd, hq, xuA, xsA, xA]
theorem r_zast (X : FX ad E cc nL own ret fr lo) {o c k n : Nat} (ho : x_cl o = c) (ha : x_ar c o k = some (1, n)) {i x : Int32} (hin : vp_in i n) (hd : decode cc pc = .ok (.bastore, 1)) (kk : KK ad E Q (pc + 1) L (st) (xuA σ o k i.toNatClampNeg (vp_nar .boolean x))) : KK ad E Q (pc) L (.int x :: .int i :: .ref (ad o (k + 1) 0) :: st) σ := by
  obtain ⟨p, l, e, R, s, m, args, below, meth, c9, G⟩ := E
  intro H locs ls h1 h2 h3
  subst ho
  obtain ⟨hx, hb, -, -, -, hV, hJ, -, -, -, -⟩ := X
  have he0 := x_ent_z (ad := ad) (G := G) (σ := σ) ha
  have hc : H[ad o (k + 1) 0]? = some (vp_cell _ _) := h2 _ _ _ _ he0
  refine W.zast hx hb hc ((hV.1.2 1 _ rfl).1 n (fun j => .int (xA σ o k j))) (fun q => by cases q) (by show ¬ (i < 0 ∨ (arrV _ _ _).slots.size ≤ _); rw [arrV_size]; exact hin) rfl rfl hd fun H1 e z oq => ?_
  refine kk H1 _ ls h1 (h2.set hJ (x_ent_dom he0) (x_ent_z ha) (fun o' f' r' q => x_ent_setA q) ?_ oq) (h3.put z oq ⟨_, _, _, x_ent_dom he0, rfl⟩)
  show H1[ad o (k + 1) 0]? = some (vp_cell _ _)
  rw [e]
  rw [vp_cell_i, vp_cell_i, arrV_store]
  congr 2
  funext q
  
  by_cases hq : q = i.toNatClampNeg
  · subst hq
    simp [updV, upd, vp_nar, xuA, xsA, xA]
    try rfl
  · simp [updV, upd, hq, xuA, xsA, xA]
theorem r_iast2 (X : FX ad E cc nL own ret fr lo) {o c k n : Nat} (ho : x_cl o = c) (ha : x_ar c o k = some (2, n)) {r i x : Int32} (hr : vp_in r 20) (hin : vp_in i n) (hd : decode cc pc = .ok (.iastore, 1)) (kk : KK ad E Q (pc + 1) L (st) (xuB σ o k r.toNatClampNeg i.toNatClampNeg x)) : KK ad E Q (pc) L (.int x :: .int i :: .ref (ad o (k + 1) (r.toNatClampNeg + 1)) :: st) σ := by
  obtain ⟨p, l, e, R, s, m, args, below, meth, c9, G⟩ := E
  intro H locs ls h1 h2 h3
  have hr9 := Nat.not_le.mp fun q => hr (Or.inr q)
  subst ho
  obtain ⟨hx, hb, -, -, -, hV, hJ, -, -, -, -⟩ := X
  have he0 := x_ent_r (ad := ad) (G := G) (σ := σ) ha hr9
  have hc : H[ad o (k + 1) (r.toNatClampNeg + 1)]? = some (vp_cell _ _) := h2 _ _ _ _ he0
  refine W.iast hx hb hc ((hV.1.2 0 _ rfl).1 n (fun j => .int (xB σ o k r.toNatClampNeg j))) (fun q => by cases q) (by show ¬ (i < 0 ∨ (arrV _ _ _).slots.size ≤ _); rw [arrV_size]; exact hin) rfl rfl hd fun H1 e z oq => ?_
  refine kk H1 _ ls h1 (h2.set hJ (x_ent_dom he0) (x_ent_r ha hr9) (fun o' f' r' q => x_ent_setB q) ?_ oq) (h3.put z oq ⟨_, _, _, x_ent_dom he0, rfl⟩)
  show H1[ad o (k + 1) (r.toNatClampNeg + 1)]? = some (vp_cell _ _)
  rw [e]
  rw [vp_cell_i, vp_cell_i, arrV_store]
  congr 2
  funext q
  
  by_cases hq : q = i.toNatClampNeg
  · subst hq
    simp [updV, upd, vp_nar, xuB, xsB, xB]
    try rfl
  · simp [updV, upd, hq, xuB, xsB, xB]
theorem r_mmax (X : FX ad E cc nL own ret fr lo) {index : Nat} (w1 : Cond.methodLink own index Lib.Math.max.name ∈ x_big) (hr : 1 ≤ fr ∧ (st.map fun v => v.category).sum + 13 ≤ lo) {x y : Int32} (hd : decode cc pc = .ok (.invokestatic index, 3)) (kk : KK ad E Q (pc + 3) L (.int (if x < y then y else x) :: st) σ) : KK ad E Q (pc) L (.int y :: .int x :: st) σ := by
  obtain ⟨p, l, e, R, s, m, args, below, meth, c9, G⟩ := E
  intro H locs ls h1 h2 h3
  exact va_mmax X.1 X.2.1 h1.1.symm X.2.2.2.1 (X.2.2.2.2.1 _ w1) (X.2.2.2.2.1 _ ms_max) (X.2.2.2.2.1 _ mn_Math) (X.2.2.2.2.1 _ mc_max) (Nat.le_trans hr.1 X.2.2.2.2.2.2.2.2.2.1) (Nat.le_trans hr.2 X.2.2.2.2.2.2.2.2.2.2) (Nat.zero_le _) (Nat.zero_le _) hd (kk H locs ls h1 h2 h3)
theorem r_mmin (X : FX ad E cc nL own ret fr lo) {index : Nat} (w1 : Cond.methodLink own index Lib.Math.min.name ∈ x_big) (hr : 1 ≤ fr ∧ (st.map fun v => v.category).sum + 13 ≤ lo) {x y : Int32} (hd : decode cc pc = .ok (.invokestatic index, 3)) (kk : KK ad E Q (pc + 3) L (.int (if y < x then y else x) :: st) σ) : KK ad E Q (pc) L (.int y :: .int x :: st) σ := by
  obtain ⟨p, l, e, R, s, m, args, below, meth, c9, G⟩ := E
  intro H locs ls h1 h2 h3
  exact va_mmin X.1 X.2.1 h1.1.symm X.2.2.2.1 (X.2.2.2.2.1 _ w1) (X.2.2.2.2.1 _ ms_min) (X.2.2.2.2.1 _ mn_Math) (X.2.2.2.2.1 _ mc_min) (Nat.le_trans hr.1 X.2.2.2.2.2.2.2.2.2.1) (Nat.le_trans hr.2 X.2.2.2.2.2.2.2.2.2.2) (Nat.zero_le _) (Nat.zero_le _) hd (kk H locs ls h1 h2 h3)
theorem x_call {ad : xAd} {p : Program} {l : Launch} {e : Env} {R : Room} {s : State} {m : MethodId} {args : Array Value} {below : List Frame} {meth : Method} {c : Code} {H : Heap} {locs : List Loc} {QQ : State → Prop} {pc : Nat} {ls : Array Slot} {rest st0 : List Value} {a : Array Value} {G : xG} {Qc : Option Value → xSt → Prop} (hr : va_Run p l e R s m args below meth c H locs 0 0 0 0 (F0 m pc ls st0) rest (xQ ad G Qc a) (xW ad)) (hS : va_S (xW ad) s.heap H locs)
    (kk : ∀ (v : Option Value) (σ' : xSt) (H1 : Heap) (locs1 : List Loc), Qc v σ' → xP ad G σ' H1 → va_S (xW ad) s.heap H1 locs1 → W p l e R s m args below meth c H1 locs1 0 0 QQ (F0 m (pc + 3) ls (v.toList ++ rest))) : W p l e R s m args below meth c H locs 0 0 QQ (F0 m pc ls st0) := by
  intro T hT X
  obtain ⟨v, st₀, t, T', L, h0, X', hL, e1, e2, ⟨⟨v', σ', hv, hq, hP⟩, hz, hk⟩, st⟩ := hr T hT X
  cases hv
  rw [h0] at hz hk
  obtain ⟨t2, a1, b1⟩ := kk v σ' T'.heap (locs ++ L) hq (by rw [e1]; exact hP)
    ⟨Nat.le_trans hS.1 (by rw [e1]; exact hz), fun q h1 h2 => by rw [e1, hk q (Nat.lt_of_lt_of_le h1 hS.1) h2]; exact hS.2.1 q h1 h2, fun q hq => by
      rcases List.mem_append.mp hq with h | h
      · exact hS.2.2 q h
      · exact hL q h⟩ T' rfl X'
  exact ⟨t2, st t2 a1, b1⟩
theorem x_blind {ad : xAd} {G : xG} {av : List Value} {σ : xSt} : FrameBlind (xPc ad G av σ) := fun a U g mk h => by
  obtain ⟨h0, h1, h2, h3⟩ := h
  exact ⟨h0, h1, xV.same (s := U) (U := U.calling g mk a) rfl h2, h3⟩
theorem x_pre {ad : xAd} {G : xG} {av : List Value} {σ : xSt} {s : State} {H : Heap} {locs : List Loc} (hP : xP ad G σ H) (hV : xV ad G s s.heap) (hJ : xJ ad) (hS : va_S (xW ad) s.heap H locs) : ∀ U : State, U.heap = H → s.WarmedH U.vm → xPc ad G av σ av.toArray U := fun U hU hW => by
  subst hU
  exact ⟨rfl, hP, (hV.kept hS.2.1).warm hW, hJ⟩
theorem x_gin {y : MethodName} {b : ByteArray} {n : Nat} {rt : Option FieldType} (w5 : Cond.code y b n rt ∈ x_big) : GoodIn x_big (.code y b n rt :: x_big) := fun w h => by
  rcases List.mem_cons.mp h with rfl | h
  · exact ⟨w5, (x_good _ w5).2⟩
  · exact ⟨h, (x_good _ h).2⟩
theorem r_callV (X : FX ad E cc nL own ret fr lo) {index n mL fr1 lo1 : Nat} {y : MethodName} {b1 : ByteArray} {rt : Option FieldType} {As : List Value} {Qc : Option Value → xSt → Prop} {o c N : Nat} {C : String} {T : u_T} (hm : MC ad (eG E) (eL E) y b1 mL rt fr1 lo1 (.ref (ad o 0 0) :: As) σ Qc) (ho : x_cl o = c) (h8 : c < 8) (hcl : x_cls[c]? = some (C, T, N)) (w1 : Cond.methodLink own index y ∈ x_big) (w2 : Cond.instanceMethod y ∈ x_big) (w3 : Cond.selects C y y ∈ x_big) (w4 : Cond.initialized y.cls ∈ x_big) (w5 : Cond.code y b1 mL rt ∈ x_big) (hy : y.cls ≠ "java/lang/invoke/MethodHandle" ∧ y.cls ≠ "java/lang/invoke/VarHandle" ∧ (parseMethodDescriptor y.desc).map (fun d => d.parameters.length) = some n) (hn : As.length = n) (hr : fr1 + 1 ≤ fr ∧ 8 + (mL + 11) + lo1 ≤ lo) (hst : (st.map fun v => v.category).sum ≤ 8) (hd : decode cc pc = .ok (.invokevirtual index, 3)) (kk : ∀ (v : Option Value) (σ1 : xSt), Qc v σ1 → KK ad E Q (pc + 3) L (v.toList ++ st) σ1) : KK ad E Q (pc) L (As.reverse ++ .ref (ad o 0 0) :: st) σ := by
  obtain ⟨p, l, e, R, s, m, args, below, meth, c9, G⟩ := E
  intro H locs ls h1 h2 h3
  obtain ⟨hx, hb, hml, hown, hts, hV, hJ, -, -, g1, g2⟩ := X
  exact x_call (va_runV (Ts := x_big) (As := As) (rest := st) ⟨hx, hb, hml, hown, hts⟩ hm ⟨callB_of n hts (x_gin w5) rfl rfl rfl (hts _ w4) (hts _ w1) hy ⟨Nat.le_trans hr.1 g1, Nat.le_trans hr.2 g2⟩, hts _ w2, hts _ w3⟩ ⟨x_blind, va_recv hV.1 (h2.one (x_ent_o ho h8)) hcl (q0 := 0) rfl, x_pre h2 hV hJ h3⟩ rfl hn (h1.1.trans hml) rfl (lv_room hst) hd ⟨Nat.zero_le _, Nat.zero_le _⟩) h3 (fun v σ1 H1 locs1 q g2 g3 => kk v σ1 q H1 locs1 ls h1 g2 g3)
theorem r_callS (X : FX ad E cc nL own ret fr lo) {index n mL fr1 lo1 : Nat} {y : MethodName} {b1 : ByteArray} {rt : Option FieldType} {As : List Value} {Qc : Option Value → xSt → Prop} (hm : MC ad (eG E) (eL E) y b1 mL rt fr1 lo1 As σ Qc) (w1 : Cond.methodLink own index y ∈ x_big) (w2 : Cond.static y ∈ x_big) (w4 : Cond.initialized y.cls ∈ x_big) (w5 : Cond.code y b1 mL rt ∈ x_big) (hy : y.cls ≠ "java/lang/invoke/MethodHandle" ∧ y.cls ≠ "java/lang/invoke/VarHandle" ∧ (parseMethodDescriptor y.desc).map (fun d => d.parameters.length) = some n) (hn : As.length = n) (hr : fr1 + 1 ≤ fr ∧ 8 + (mL + 11) + lo1 ≤ lo) (hst : (st.map fun v => v.category).sum ≤ 8) (hd : decode cc pc = .ok (.invokestatic index, 3)) (kk : ∀ (v : Option Value) (σ1 : xSt), Qc v σ1 → KK ad E Q (pc + 3) L (v.toList ++ st) σ1) : KK ad E Q (pc) L (As.reverse ++ st) σ := by
  obtain ⟨p, l, e, R, s, m, args, below, meth, c9, G⟩ := E
  intro H locs ls h1 h2 h3
  obtain ⟨hx, hb, hml, hown, hts, hV, hJ, -, -, g1, g2⟩ := X
  exact x_call (va_runS (Ts := x_big) (As := As) (rest := st) ⟨hx, hb, hml, hown, hts⟩ hm ⟨callB_of n hts (x_gin w5) rfl rfl rfl (hts _ w4) (hts _ w1) hy ⟨Nat.le_trans hr.1 g1, Nat.le_trans hr.2 g2⟩, hts _ w2⟩ ⟨x_blind, x_pre h2 hV hJ h3⟩ rfl hn (h1.1.trans hml) rfl (lv_room hst) hd ⟨Nat.zero_le _, Nat.zero_le _⟩) h3 (fun v σ1 H1 locs1 q g2 g3 => kk v σ1 q H1 locs1 ls h1 g2 g3)
theorem r_callSN (X : FX ad E cc nL own ret fr lo) {index n mL fr1 lo1 : Nat} {y : MethodName} {b1 : ByteArray} {rt : Option FieldType} {As : List Value} {Qc : Option Value → xSt → Prop} {host : String} (hm : MC ad (eG E) (eL E) y b1 mL rt fr1 lo1 As σ Qc) (w1 : (own, index, y, host) ∈ x_nm) (w2 : Cond.static y ∈ x_big) (w4 : Cond.initialized y.cls ∈ x_big) (w5 : Cond.code y b1 mL rt ∈ x_big) (hy : y.cls ≠ "java/lang/invoke/MethodHandle" ∧ y.cls ≠ "java/lang/invoke/VarHandle" ∧ (parseMethodDescriptor y.desc).map (fun d => d.parameters.length) = some n) (hn : As.length = n) (hr : fr1 + 1 ≤ fr ∧ 8 + (mL + 11) + lo1 ≤ lo) (hst : (st.map fun v => v.category).sum ≤ 8) (hd : decode cc pc = .ok (.invokestatic index, 3)) (kk : ∀ (v : Option Value) (σ1 : xSt), Qc v σ1 → KK ad E Q (pc + 3) L (v.toList ++ st) σ1) : KK ad E Q (pc) L (As.reverse ++ st) σ := by
  obtain ⟨p, l, e, R, s, m, args, below, meth, c9, G⟩ := E
  intro H locs ls h1 h2 h3
  obtain ⟨hx, hb, hml, hown, hts, hV, hJ, -, -, g1, g2⟩ := X
  exact x_call (va_runSN (Ts := x_big) (host := host) (As := As) (rest := st) ⟨hx, hb, hml, hown, hts⟩ hm ⟨va_cnB n hts (x_gin w5) rfl rfl rfl (hV.2.2.1 _ w1) (hts _ w4) hy ⟨Nat.le_trans hr.1 g1, Nat.le_trans hr.2 g2⟩, hts _ w2, trivial⟩ ⟨x_blind, x_pre h2 hV hJ h3⟩ rfl hn (h1.1.trans hml) rfl (lv_room hst) hd ⟨Nat.zero_le _, Nat.zero_le _⟩) h3 (fun v σ1 H1 locs1 q g2 g3 => kk v σ1 q H1 locs1 ls h1 g2 g3)
end XR
def qV (Q : xSt → Prop) : Option Value → xSt → Prop := fun v σ => v = none ∧ Q σ
def qI (Q : Int32 → xSt → Prop) : Option Value → xSt → Prop := fun v σ => ∃ r : Int32, v = some (.int r) ∧ Q r σ
def qZ (Q : Int32 → xSt → Prop) : Option Value → xSt → Prop := fun v σ => ∃ r : Int32, v = some (.int r) ∧ (r = 0 ∨ r = 1) ∧ Q r σ
def qL (Q : Int64 → xSt → Prop) : Option Value → xSt → Prop := fun v σ => ∃ r : Int64, v = some (.long r) ∧ Q r σ
def qC (ad : xAd) (o : Nat) (Q : xSt → Prop) : Option Value → xSt → Prop := fun v σ => v = some (.ref (ad o 0 0)) ∧ Q σ
def qR (ad : xAd) (c : Nat) (Q : Option Nat → xSt → Prop) : Option Value → xSt → Prop := fun v σ => (v = some .null ∧ Q none σ) ∨ ∃ o : Nat, x_cl o = c ∧ v = some (.ref (ad o 0 0)) ∧ Q (some o) σ
end

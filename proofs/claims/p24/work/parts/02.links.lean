def cR : Nat → String := fun ci => match ci with
  | 0 => RX0
  | 1 => RX1
  | 2 => RX2
  | 3 => RX3
  | 4 => RX4
  | 5 => RX5
  | 6 => RX6
  | _ => RX7
def cT : Nat → u_T := fun ci => match ci with
  | 0 => TX0
  | 1 => TX1
  | 2 => TX2
  | 3 => TX3
  | 4 => TX4
  | 5 => TX5
  | 6 => TX6
  | _ => TX7
def cY : Nat → Nat → FieldType := fun ci => match ci with
  | 0 => tyX0
  | 1 => tyX1
  | 2 => tyX2
  | 3 => tyX3
  | 4 => tyX4
  | 5 => tyX5
  | 6 => tyX6
  | _ => tyX7
def cN : Nat → Nat := fun ci => match ci with
  | 0 => 4
  | 1 => 2
  | 2 => 7
  | 3 => 7
  | 4 => 14
  | 5 => 9
  | 6 => 4
  | _ => 58
def kX0 : Nat → Nat := fun k => match k with
  | _ => 0
def kX1 : Nat → Nat := fun k => match k with
  | 0 => 3
  | _ => 0
def kX2 : Nat → Nat := fun k => match k with
  | 0 => 3
  | 2 => 3
  | 3 => 3
  | 5 => 2
  | 6 => 3
  | _ => 0
def kX3 : Nat → Nat := fun k => match k with
  | 0 => 3
  | 1 => 3
  | _ => 0
def kX4 : Nat → Nat := fun k => match k with
  | 0 => 1
  | 1 => 1
  | 3 => 3
  | 5 => 2
  | 6 => 3
  | 7 => 3
  | 9 => 3
  | 11 => 3
  | 12 => 3
  | _ => 0
def kX5 : Nat → Nat := fun k => match k with
  | 0 => 3
  | 1 => 3
  | 2 => 3
  | 4 => 3
  | 8 => 3
  | _ => 0
def kX6 : Nat → Nat := fun k => match k with
  | 0 => 3
  | 1 => 3
  | 3 => 3
  | _ => 0
def kX7 : Nat → Nat := fun k => match k with
  | 1 => 3
  | 2 => 3
  | 3 => 3
  | 4 => 3
  | 5 => 3
  | 6 => 3
  | 7 => 3
  | 8 => 3
  | 9 => 3
  | 10 => 3
  | 11 => 3
  | 12 => 3
  | 13 => 3
  | 14 => 3
  | 15 => 3
  | 16 => 3
  | 18 => 3
  | 19 => 3
  | 20 => 3
  | 22 => 3
  | 23 => 3
  | 24 => 3
  | 26 => 3
  | 27 => 3
  | 28 => 3
  | 29 => 3
  | 30 => 3
  | 31 => 3
  | 32 => 3
  | 33 => 3
  | 34 => 3
  | 35 => 3
  | 36 => 3
  | 39 => 3
  | 40 => 3
  | 41 => 3
  | 42 => 3
  | 43 => 3
  | 49 => 1
  | 50 => 1
  | 57 => 3
  | _ => 0
def cK : Nat → Nat → Nat := fun ci => match ci with
  | 0 => kX0
  | 1 => kX1
  | 2 => kX2
  | 3 => kX3
  | 4 => kX4
  | 5 => kX5
  | 6 => kX6
  | _ => kX7
abbrev CL : List vw_C := [(RX0, TX0, 4), (RX1, TX1, 2), (RX2, TX2, 7), (RX3, TX3, 7), (RX4, TX4, 14), (RX5, TX5, 9), (RX6, TX6, 4), (RX7, TX7, 58)]
theorem CL_at : ∀ ci, ci < 8 → CL[ci]? = some (cR ci, cT ci, cN ci) := by
  intro ci h
  match ci, h with
  | 0, _ => rfl
  | 1, _ => rfl
  | 2, _ => rfl
  | 3, _ => rfl
  | 4, _ => rfl
  | 5, _ => rfl
  | 6, _ => rfl
  | 7, _ => rfl
theorem inX0 : ∀ w ∈ u_ws RX0 TX0 4, w ∈ lw_tbl := by decide +kernel
theorem igX0 : ∀ w ∈ u_ws RX0 TX0 4, goodWord w = true := by decide +kernel
theorem inX1 : ∀ w ∈ u_ws RX1 TX1 2, w ∈ lw_tbl := by decide +kernel
theorem igX1 : ∀ w ∈ u_ws RX1 TX1 2, goodWord w = true := by decide +kernel
theorem inX2 : ∀ w ∈ u_ws RX2 TX2 7, w ∈ lw_tbl := by decide +kernel
theorem igX2 : ∀ w ∈ u_ws RX2 TX2 7, goodWord w = true := by decide +kernel
theorem inX3 : ∀ w ∈ u_ws RX3 TX3 7, w ∈ lw_tbl := by decide +kernel
theorem igX3 : ∀ w ∈ u_ws RX3 TX3 7, goodWord w = true := by decide +kernel
theorem inX4 : ∀ w ∈ u_ws RX4 TX4 14, w ∈ lw_tbl := by decide +kernel
theorem igX4 : ∀ w ∈ u_ws RX4 TX4 14, goodWord w = true := by decide +kernel
theorem inX5 : ∀ w ∈ u_ws RX5 TX5 9, w ∈ lw_tbl := by decide +kernel
theorem igX5 : ∀ w ∈ u_ws RX5 TX5 9, goodWord w = true := by decide +kernel
theorem inX6 : ∀ w ∈ u_ws RX6 TX6 4, w ∈ lw_tbl := by decide +kernel
theorem igX6 : ∀ w ∈ u_ws RX6 TX6 4, goodWord w = true := by decide +kernel
theorem inX7 : ∀ w ∈ u_ws RX7 TX7 58, w ∈ lw_tbl := by decide +kernel
theorem igX7 : ∀ w ∈ u_ws RX7 TX7 58, goodWord w = true := by decide +kernel
theorem cin : ∀ ci, ci < 8 → ∀ w ∈ u_ws (cR ci) (cT ci) (cN ci), w ∈ lw_tbl := by
  intro ci h
  match ci, h with
  | 0, _ => exact inX0
  | 1, _ => exact inX1
  | 2, _ => exact inX2
  | 3, _ => exact inX3
  | 4, _ => exact inX4
  | 5, _ => exact inX5
  | 6, _ => exact inX6
  | 7, _ => exact inX7
theorem cig : ∀ ci, ci < 8 → ∀ w ∈ u_ws (cR ci) (cT ci) (cN ci), goodWord w = true := by
  intro ci h
  match ci, h with
  | 0, _ => exact igX0
  | 1, _ => exact igX1
  | 2, _ => exact igX2
  | 3, _ => exact igX3
  | 4, _ => exact igX4
  | 5, _ => exact igX5
  | 6, _ => exact igX6
  | 7, _ => exact igX7
theorem cnm : ∀ ci, ci < 8 → ∀ a, a < cN ci → ∀ b, b < cN ci → a ≠ b → (cT ci a).2.1 ≠ (cT ci b).2.1 := by
  intro ci h
  match ci, h with
  | 0, _ => exact nmX0
  | 1, _ => exact nmX1
  | 2, _ => exact nmX2
  | 3, _ => exact nmX3
  | 4, _ => exact nmX4
  | 5, _ => exact nmX5
  | 6, _ => exact nmX6
  | 7, _ => exact nmX7
theorem cty : ∀ ci, ci < 8 → ∀ k, k < cN ci → parseFieldDescriptor (cT ci k).2.2.1 = some (cY ci k) := by
  intro ci h
  match ci, h with
  | 0, _ => exact tyX0_ok
  | 1, _ => exact tyX1_ok
  | 2, _ => exact tyX2_ok
  | 3, _ => exact tyX3_ok
  | 4, _ => exact tyX4_ok
  | 5, _ => exact tyX5_ok
  | 6, _ => exact tyX6_ok
  | 7, _ => exact tyX7_ok
def isRefT : FieldType → Bool
  | .object _ => true
  | .array _ => true
  | _ => false
def kty : Nat → FieldType → Bool := fun k t => match k with
  | 0 => t == .int
  | 1 => t == .boolean
  | 2 => t == .long
  | _ => isRefT t
theorem ckt : ∀ ci, ci < 8 → ∀ k, k < cN ci → kty (cK ci k) (cY ci k) = true := by decide +kernel
theorem ck3 : ∀ ci, ci < 8 → ∀ k, k < cN ci → cK ci k ≤ 3 := by decide +kernel
theorem cself : ∀ ci, ci < 8 → ∀ k, k < cN ci → (cT ci k).1 = cR ci := by decide +kernel
def lw_good : List Cond := lw_tbl.filter goodWord
theorem lw_gd {w : Cond} (h : w ∈ lw_tbl) (hg : goodWord w = true) : w ∈ lw_good := List.mem_filter.mpr ⟨h, hg⟩
/-- a field's link, among the tables' words -/
def FL (own : String) (idx ci k : Nat) : Prop := Cond.fieldLink own idx (cT ci k).1 (cT ci k).2.1 (cT ci k).2.2.1 ∈ lw_tbl ∧ k < cN ci ∧ ci < 8
def MLk (own : String) (idx : Nat) (y : MethodName) : Prop := Cond.methodLink own idx y ∈ lw_tbl
def MWk (y : MethodName) (bytes : ByteArray) (maxL : Nat) (ret : Option FieldType) : Prop := Cond.code y bytes maxL ret ∈ lw_tbl ∧ Cond.initialized y.cls ∈ lw_tbl
def IMk (y : MethodName) : Prop := Cond.instanceMethod y ∈ lw_tbl
def SMk (y : MethodName) : Prop := Cond.static y ∈ lw_tbl
def SLk (y : MethodName) : Prop := Cond.selects y.cls y y ∈ lw_tbl
def CLk (own : String) (idx ci : Nat) : Prop := Cond.classLink own idx (cR ci) ∈ lw_tbl ∧ Cond.instantiable (cR ci) (cN ci) ∈ lw_tbl ∧ Cond.initialized (cR ci) ∈ lw_tbl ∧ ci < 8
def CLa (own : String) (idx ci : Nat) : Prop := Cond.classLink own idx (cR ci) ∈ lw_tbl ∧ Cond.arrayOver (.object (cR ci)) ∈ lw_tbl ∧ ci < 8
theorem tb_0 {w : Cond} (h : w ∈ k2_sels lw_privs) : w ∈ lw_tbl := List.mem_append_left _ h
theorem tb_1 {w : Cond} (h : w ∈ tables_1_1) : w ∈ lw_tbl := List.mem_append_right _ (List.mem_append_left _ h)
theorem tb_2 {w : Cond} (h : w ∈ tables_1_2) : w ∈ lw_tbl := List.mem_append_right _ (List.mem_append_right _ (List.mem_append_left _ h))
theorem tb_3 {w : Cond} (h : w ∈ tables_1_3) : w ∈ lw_tbl := List.mem_append_right _ (List.mem_append_right _ (List.mem_append_right _ (List.mem_append_left _ h)))
theorem tb_4 {w : Cond} (h : w ∈ tables_1_4) : w ∈ lw_tbl := List.mem_append_right _ (List.mem_append_right _ (List.mem_append_right _ (List.mem_append_right _ (List.mem_append_left _ h))))
theorem tb_5 {w : Cond} (h : w ∈ tables_1_5) : w ∈ lw_tbl := List.mem_append_right _ (List.mem_append_right _ (List.mem_append_right _ (List.mem_append_right _ (List.mem_append_right _ h))))
set_option maxRecDepth 20000 in
theorem flX6_10 : FL RX6 10 6 0 := ⟨tb_1 (List.mem_of_getElem? (i := 106) (by first | exact rfl | decide +kernel)), by decide, by decide⟩
set_option maxRecDepth 20000 in
theorem flX6_18 : FL RX6 18 6 1 := ⟨tb_1 (List.mem_of_getElem? (i := 107) (by first | exact rfl | decide +kernel)), by decide, by decide⟩
set_option maxRecDepth 20000 in
theorem flX6_22 : FL RX6 22 6 2 := ⟨tb_1 (List.mem_of_getElem? (i := 108) (by first | exact rfl | decide +kernel)), by decide, by decide⟩
set_option maxRecDepth 20000 in
theorem flX6_27 : FL RX6 27 6 3 := ⟨tb_1 (List.mem_of_getElem? (i := 109) (by first | exact rfl | decide +kernel)), by decide, by decide⟩
set_option maxRecDepth 20000 in
theorem flX6_35 : FL RX6 35 2 0 := ⟨tb_1 (List.mem_of_getElem? (i := 32) (by first | exact rfl | decide +kernel)), by decide, by decide⟩
set_option maxRecDepth 20000 in
theorem flX6_39 : FL RX6 39 4 0 := ⟨tb_1 (List.mem_of_getElem? (i := 160) (by first | exact rfl | decide +kernel)), by decide, by decide⟩
set_option maxRecDepth 20000 in
theorem flX6_49 : FL RX6 49 2 1 := ⟨tb_1 (List.mem_of_getElem? (i := 35) (by first | exact rfl | decide +kernel)), by decide, by decide⟩
set_option maxRecDepth 20000 in
theorem flX6_59 : FL RX6 59 4 4 := ⟨tb_1 (List.mem_of_getElem? (i := 171) (by first | exact rfl | decide +kernel)), by decide, by decide⟩
set_option maxRecDepth 20000 in
theorem flX6_77 : FL RX6 77 4 8 := ⟨tb_1 (List.mem_of_getElem? (i := 180) (by first | exact rfl | decide +kernel)), by decide, by decide⟩
set_option maxRecDepth 20000 in
theorem flX6_80 : FL RX6 80 4 6 := ⟨tb_1 (List.mem_of_getElem? (i := 175) (by first | exact rfl | decide +kernel)), by decide, by decide⟩
set_option maxRecDepth 20000 in
theorem flX6_91 : FL RX6 91 4 10 := ⟨tb_1 (List.mem_of_getElem? (i := 185) (by first | exact rfl | decide +kernel)), by decide, by decide⟩
set_option maxRecDepth 20000 in
theorem flX6_94 : FL RX6 94 4 9 := ⟨tb_1 (List.mem_of_getElem? (i := 182) (by first | exact rfl | decide +kernel)), by decide, by decide⟩
set_option maxRecDepth 20000 in
theorem flX6_118 : FL RX6 118 1 1 := ⟨tb_1 (List.mem_of_getElem? (i := 152) (by first | exact rfl | decide +kernel)), by decide, by decide⟩
set_option maxRecDepth 20000 in
theorem flX6_147 : FL RX6 147 2 4 := ⟨tb_1 (List.mem_of_getElem? (i := 39) (by first | exact rfl | decide +kernel)), by decide, by decide⟩
set_option maxRecDepth 20000 in
theorem flX6_150 : FL RX6 150 2 3 := ⟨tb_1 (List.mem_of_getElem? (i := 38) (by first | exact rfl | decide +kernel)), by decide, by decide⟩
set_option maxRecDepth 20000 in
theorem flX6_185 : FL RX6 185 5 0 := ⟨tb_1 (List.mem_of_getElem? (i := 69) (by first | exact rfl | decide +kernel)), by decide, by decide⟩
set_option maxRecDepth 20000 in
theorem flX6_188 : FL RX6 188 5 5 := ⟨tb_1 (List.mem_of_getElem? (i := 80) (by first | exact rfl | decide +kernel)), by decide, by decide⟩
set_option maxRecDepth 20000 in
theorem flX6_191 : FL RX6 191 5 4 := ⟨tb_1 (List.mem_of_getElem? (i := 78) (by first | exact rfl | decide +kernel)), by decide, by decide⟩
set_option maxRecDepth 20000 in
theorem flX6_194 : FL RX6 194 5 3 := ⟨tb_1 (List.mem_of_getElem? (i := 76) (by first | exact rfl | decide +kernel)), by decide, by decide⟩
set_option maxRecDepth 20000 in
theorem flX6_197 : FL RX6 197 5 2 := ⟨tb_1 (List.mem_of_getElem? (i := 74) (by first | exact rfl | decide +kernel)), by decide, by decide⟩
set_option maxRecDepth 20000 in
theorem flX6_204 : FL RX6 204 5 6 := ⟨tb_1 (List.mem_of_getElem? (i := 82) (by first | exact rfl | decide +kernel)), by decide, by decide⟩
set_option maxRecDepth 20000 in
theorem flX6_207 : FL RX6 207 5 7 := ⟨tb_1 (List.mem_of_getElem? (i := 84) (by first | exact rfl | decide +kernel)), by decide, by decide⟩
set_option maxRecDepth 20000 in
theorem flX6_210 : FL RX6 210 5 8 := ⟨tb_1 (List.mem_of_getElem? (i := 86) (by first | exact rfl | decide +kernel)), by decide, by decide⟩
set_option maxRecDepth 20000 in
theorem flX0_7 : FL RX0 7 0 0 := ⟨tb_2 (List.mem_of_getElem? (i := 60) (by first | exact rfl | decide +kernel)), by decide, by decide⟩
set_option maxRecDepth 20000 in
theorem flX0_13 : FL RX0 13 0 1 := ⟨tb_2 (List.mem_of_getElem? (i := 63) (by first | exact rfl | decide +kernel)), by decide, by decide⟩
set_option maxRecDepth 20000 in
theorem flX0_16 : FL RX0 16 0 2 := ⟨tb_2 (List.mem_of_getElem? (i := 66) (by first | exact rfl | decide +kernel)), by decide, by decide⟩
set_option maxRecDepth 20000 in
theorem flX0_19 : FL RX0 19 0 3 := ⟨tb_2 (List.mem_of_getElem? (i := 69) (by first | exact rfl | decide +kernel)), by decide, by decide⟩
set_option maxRecDepth 20000 in
theorem flX1_11 : FL RX1 11 1 0 := ⟨tb_1 (List.mem_of_getElem? (i := 146) (by first | exact rfl | decide +kernel)), by decide, by decide⟩
set_option maxRecDepth 20000 in
theorem flX1_17 : FL RX1 17 1 1 := ⟨tb_1 (List.mem_of_getElem? (i := 149) (by first | exact rfl | decide +kernel)), by decide, by decide⟩
set_option maxRecDepth 20000 in
theorem flX2_11 : FL RX2 11 2 0 := ⟨tb_1 (List.mem_of_getElem? (i := 31) (by first | exact rfl | decide +kernel)), by decide, by decide⟩
set_option maxRecDepth 20000 in
theorem flX2_17 : FL RX2 17 2 2 := ⟨tb_1 (List.mem_of_getElem? (i := 36) (by first | exact rfl | decide +kernel)), by decide, by decide⟩
set_option maxRecDepth 20000 in
theorem flX2_21 : FL RX2 21 2 3 := ⟨tb_1 (List.mem_of_getElem? (i := 37) (by first | exact rfl | decide +kernel)), by decide, by decide⟩
set_option maxRecDepth 20000 in
theorem flX2_24 : FL RX2 24 2 6 := ⟨tb_1 (List.mem_of_getElem? (i := 42) (by first | exact rfl | decide +kernel)), by decide, by decide⟩
set_option maxRecDepth 20000 in
theorem flX2_34 : FL RX2 34 2 1 := ⟨tb_1 (List.mem_of_getElem? (i := 34) (by first | exact rfl | decide +kernel)), by decide, by decide⟩
set_option maxRecDepth 20000 in
theorem flX2_38 : FL RX2 38 4 2 := ⟨tb_1 (List.mem_of_getElem? (i := 166) (by first | exact rfl | decide +kernel)), by decide, by decide⟩
set_option maxRecDepth 20000 in
theorem flX2_41 : FL RX2 41 4 5 := ⟨tb_1 (List.mem_of_getElem? (i := 173) (by first | exact rfl | decide +kernel)), by decide, by decide⟩
set_option maxRecDepth 20000 in
theorem flX2_49 : FL RX2 49 4 3 := ⟨tb_1 (List.mem_of_getElem? (i := 169) (by first | exact rfl | decide +kernel)), by decide, by decide⟩
set_option maxRecDepth 20000 in
theorem flX2_52 : FL RX2 52 4 4 := ⟨tb_1 (List.mem_of_getElem? (i := 172) (by first | exact rfl | decide +kernel)), by decide, by decide⟩
set_option maxRecDepth 20000 in
theorem flX2_62 : FL RX2 62 4 6 := ⟨tb_1 (List.mem_of_getElem? (i := 176) (by first | exact rfl | decide +kernel)), by decide, by decide⟩
set_option maxRecDepth 20000 in
theorem flX2_65 : FL RX2 65 4 9 := ⟨tb_1 (List.mem_of_getElem? (i := 183) (by first | exact rfl | decide +kernel)), by decide, by decide⟩
set_option maxRecDepth 20000 in
theorem flX2_69 : FL RX2 69 4 7 := ⟨tb_1 (List.mem_of_getElem? (i := 178) (by first | exact rfl | decide +kernel)), by decide, by decide⟩
set_option maxRecDepth 20000 in
theorem flX2_72 : FL RX2 72 5 1 := ⟨tb_1 (List.mem_of_getElem? (i := 72) (by first | exact rfl | decide +kernel)), by decide, by decide⟩
set_option maxRecDepth 20000 in
theorem flX2_77 : FL RX2 77 0 0 := ⟨tb_2 (List.mem_of_getElem? (i := 62) (by first | exact rfl | decide +kernel)), by decide, by decide⟩
set_option maxRecDepth 20000 in
theorem flX2_86 : FL RX2 86 0 1 := ⟨tb_2 (List.mem_of_getElem? (i := 65) (by first | exact rfl | decide +kernel)), by decide, by decide⟩
set_option maxRecDepth 20000 in
theorem flX2_89 : FL RX2 89 0 2 := ⟨tb_2 (List.mem_of_getElem? (i := 68) (by first | exact rfl | decide +kernel)), by decide, by decide⟩
set_option maxRecDepth 20000 in
theorem flX2_96 : FL RX2 96 4 0 := ⟨tb_1 (List.mem_of_getElem? (i := 162) (by first | exact rfl | decide +kernel)), by decide, by decide⟩
set_option maxRecDepth 20000 in
theorem flX2_100 : FL RX2 100 4 1 := ⟨tb_1 (List.mem_of_getElem? (i := 164) (by first | exact rfl | decide +kernel)), by decide, by decide⟩
set_option maxRecDepth 20000 in
theorem flX2_106 : FL RX2 106 4 13 := ⟨tb_1 (List.mem_of_getElem? (i := 193) (by first | exact rfl | decide +kernel)), by decide, by decide⟩
set_option maxRecDepth 20000 in
theorem flX2_113 : FL RX2 113 4 12 := ⟨tb_1 (List.mem_of_getElem? (i := 191) (by first | exact rfl | decide +kernel)), by decide, by decide⟩
set_option maxRecDepth 20000 in
theorem flX2_116 : FL RX2 116 2 4 := ⟨tb_1 (List.mem_of_getElem? (i := 40) (by first | exact rfl | decide +kernel)), by decide, by decide⟩
set_option maxRecDepth 20000 in
theorem flX2_119 : FL RX2 119 2 5 := ⟨tb_1 (List.mem_of_getElem? (i := 41) (by first | exact rfl | decide +kernel)), by decide, by decide⟩
set_option maxRecDepth 20000 in
theorem flX2_130 : FL RX2 130 4 11 := ⟨tb_1 (List.mem_of_getElem? (i := 188) (by first | exact rfl | decide +kernel)), by decide, by decide⟩
set_option maxRecDepth 20000 in
theorem flX2_134 : FL RX2 134 1 1 := ⟨tb_1 (List.mem_of_getElem? (i := 153) (by first | exact rfl | decide +kernel)), by decide, by decide⟩
set_option maxRecDepth 20000 in
theorem flX2_139 : FL RX2 139 1 0 := ⟨tb_1 (List.mem_of_getElem? (i := 148) (by first | exact rfl | decide +kernel)), by decide, by decide⟩
set_option maxRecDepth 20000 in
theorem flX3_9 : FL RX3 9 3 6 := ⟨tb_2 (List.mem_of_getElem? (i := 204) (by first | exact rfl | decide +kernel)), by decide, by decide⟩
set_option maxRecDepth 20000 in
theorem flX3_15 : FL RX3 15 3 0 := ⟨tb_2 (List.mem_of_getElem? (i := 194) (by first | exact rfl | decide +kernel)), by decide, by decide⟩
set_option maxRecDepth 20000 in
theorem flX3_19 : FL RX3 19 3 1 := ⟨tb_2 (List.mem_of_getElem? (i := 195) (by first | exact rfl | decide +kernel)), by decide, by decide⟩
set_option maxRecDepth 20000 in
theorem flX3_23 : FL RX3 23 3 2 := ⟨tb_2 (List.mem_of_getElem? (i := 196) (by first | exact rfl | decide +kernel)), by decide, by decide⟩
set_option maxRecDepth 20000 in
theorem flX3_30 : FL RX3 30 0 0 := ⟨tb_2 (List.mem_of_getElem? (i := 61) (by first | exact rfl | decide +kernel)), by decide, by decide⟩
set_option maxRecDepth 20000 in
theorem flX3_35 : FL RX3 35 0 3 := ⟨tb_2 (List.mem_of_getElem? (i := 70) (by first | exact rfl | decide +kernel)), by decide, by decide⟩
set_option maxRecDepth 20000 in
theorem flX3_52 : FL RX3 52 2 0 := ⟨tb_1 (List.mem_of_getElem? (i := 33) (by first | exact rfl | decide +kernel)), by decide, by decide⟩
set_option maxRecDepth 20000 in
theorem flX3_56 : FL RX3 56 0 2 := ⟨tb_2 (List.mem_of_getElem? (i := 67) (by first | exact rfl | decide +kernel)), by decide, by decide⟩
set_option maxRecDepth 20000 in
theorem flX3_79 : FL RX3 79 0 1 := ⟨tb_2 (List.mem_of_getElem? (i := 64) (by first | exact rfl | decide +kernel)), by decide, by decide⟩
set_option maxRecDepth 20000 in
theorem flX3_89 : FL RX3 89 5 1 := ⟨tb_1 (List.mem_of_getElem? (i := 71) (by first | exact rfl | decide +kernel)), by decide, by decide⟩
set_option maxRecDepth 20000 in
theorem flX3_93 : FL RX3 93 3 4 := ⟨tb_2 (List.mem_of_getElem? (i := 200) (by first | exact rfl | decide +kernel)), by decide, by decide⟩
set_option maxRecDepth 20000 in
theorem flX3_96 : FL RX3 96 5 0 := ⟨tb_1 (List.mem_of_getElem? (i := 68) (by first | exact rfl | decide +kernel)), by decide, by decide⟩
set_option maxRecDepth 20000 in
theorem flX3_106 : FL RX3 106 4 0 := ⟨tb_1 (List.mem_of_getElem? (i := 161) (by first | exact rfl | decide +kernel)), by decide, by decide⟩
set_option maxRecDepth 20000 in
theorem flX3_110 : FL RX3 110 4 2 := ⟨tb_1 (List.mem_of_getElem? (i := 167) (by first | exact rfl | decide +kernel)), by decide, by decide⟩
set_option maxRecDepth 20000 in
theorem flX3_117 : FL RX3 117 4 13 := ⟨tb_1 (List.mem_of_getElem? (i := 192) (by first | exact rfl | decide +kernel)), by decide, by decide⟩
set_option maxRecDepth 20000 in
theorem flX3_120 : FL RX3 120 4 12 := ⟨tb_1 (List.mem_of_getElem? (i := 190) (by first | exact rfl | decide +kernel)), by decide, by decide⟩
set_option maxRecDepth 20000 in
theorem flX3_126 : FL RX3 126 3 5 := ⟨tb_2 (List.mem_of_getElem? (i := 203) (by first | exact rfl | decide +kernel)), by decide, by decide⟩
set_option maxRecDepth 20000 in
theorem flX3_129 : FL RX3 129 4 11 := ⟨tb_1 (List.mem_of_getElem? (i := 187) (by first | exact rfl | decide +kernel)), by decide, by decide⟩
set_option maxRecDepth 20000 in
theorem flX3_133 : FL RX3 133 3 3 := ⟨tb_2 (List.mem_of_getElem? (i := 199) (by first | exact rfl | decide +kernel)), by decide, by decide⟩
set_option maxRecDepth 20000 in
theorem flX3_141 : FL RX3 141 1 1 := ⟨tb_1 (List.mem_of_getElem? (i := 151) (by first | exact rfl | decide +kernel)), by decide, by decide⟩
set_option maxRecDepth 20000 in
theorem flX3_146 : FL RX3 146 1 0 := ⟨tb_1 (List.mem_of_getElem? (i := 147) (by first | exact rfl | decide +kernel)), by decide, by decide⟩
set_option maxRecDepth 20000 in
theorem flX4_9 : FL RX4 9 4 3 := ⟨tb_1 (List.mem_of_getElem? (i := 168) (by first | exact rfl | decide +kernel)), by decide, by decide⟩
set_option maxRecDepth 20000 in
theorem flX4_15 : FL RX4 15 4 6 := ⟨tb_1 (List.mem_of_getElem? (i := 174) (by first | exact rfl | decide +kernel)), by decide, by decide⟩
set_option maxRecDepth 20000 in
theorem flX4_18 : FL RX4 18 4 7 := ⟨tb_1 (List.mem_of_getElem? (i := 177) (by first | exact rfl | decide +kernel)), by decide, by decide⟩
set_option maxRecDepth 20000 in
theorem flX4_23 : FL RX4 23 4 9 := ⟨tb_1 (List.mem_of_getElem? (i := 181) (by first | exact rfl | decide +kernel)), by decide, by decide⟩
set_option maxRecDepth 20000 in
theorem flX4_28 : FL RX4 28 4 11 := ⟨tb_1 (List.mem_of_getElem? (i := 186) (by first | exact rfl | decide +kernel)), by decide, by decide⟩
set_option maxRecDepth 20000 in
theorem flX4_32 : FL RX4 32 4 12 := ⟨tb_1 (List.mem_of_getElem? (i := 189) (by first | exact rfl | decide +kernel)), by decide, by decide⟩
set_option maxRecDepth 20000 in
theorem flX4_35 : FL RX4 35 4 0 := ⟨tb_1 (List.mem_of_getElem? (i := 159) (by first | exact rfl | decide +kernel)), by decide, by decide⟩
set_option maxRecDepth 20000 in
theorem flX4_39 : FL RX4 39 4 1 := ⟨tb_1 (List.mem_of_getElem? (i := 163) (by first | exact rfl | decide +kernel)), by decide, by decide⟩
set_option maxRecDepth 20000 in
theorem flX4_42 : FL RX4 42 4 2 := ⟨tb_1 (List.mem_of_getElem? (i := 165) (by first | exact rfl | decide +kernel)), by decide, by decide⟩
set_option maxRecDepth 20000 in
theorem flX4_46 : FL RX4 46 4 4 := ⟨tb_1 (List.mem_of_getElem? (i := 170) (by first | exact rfl | decide +kernel)), by decide, by decide⟩
set_option maxRecDepth 20000 in
theorem flX4_49 : FL RX4 49 4 8 := ⟨tb_1 (List.mem_of_getElem? (i := 179) (by first | exact rfl | decide +kernel)), by decide, by decide⟩
set_option maxRecDepth 20000 in
theorem flX4_52 : FL RX4 52 4 10 := ⟨tb_1 (List.mem_of_getElem? (i := 184) (by first | exact rfl | decide +kernel)), by decide, by decide⟩
set_option maxRecDepth 20000 in
theorem flX4_59 : FL RX4 59 1 1 := ⟨tb_1 (List.mem_of_getElem? (i := 150) (by first | exact rfl | decide +kernel)), by decide, by decide⟩
set_option maxRecDepth 20000 in
theorem flX5_9 : FL RX5 9 5 0 := ⟨tb_1 (List.mem_of_getElem? (i := 67) (by first | exact rfl | decide +kernel)), by decide, by decide⟩
set_option maxRecDepth 20000 in
theorem flX5_15 : FL RX5 15 5 1 := ⟨tb_1 (List.mem_of_getElem? (i := 70) (by first | exact rfl | decide +kernel)), by decide, by decide⟩
set_option maxRecDepth 20000 in
theorem flX5_18 : FL RX5 18 5 2 := ⟨tb_1 (List.mem_of_getElem? (i := 73) (by first | exact rfl | decide +kernel)), by decide, by decide⟩
set_option maxRecDepth 20000 in
theorem flX5_21 : FL RX5 21 5 4 := ⟨tb_1 (List.mem_of_getElem? (i := 77) (by first | exact rfl | decide +kernel)), by decide, by decide⟩
set_option maxRecDepth 20000 in
theorem flX5_24 : FL RX5 24 5 6 := ⟨tb_1 (List.mem_of_getElem? (i := 81) (by first | exact rfl | decide +kernel)), by decide, by decide⟩
set_option maxRecDepth 20000 in
theorem flX5_28 : FL RX5 28 5 7 := ⟨tb_1 (List.mem_of_getElem? (i := 83) (by first | exact rfl | decide +kernel)), by decide, by decide⟩
set_option maxRecDepth 20000 in
theorem flX5_31 : FL RX5 31 5 8 := ⟨tb_1 (List.mem_of_getElem? (i := 85) (by first | exact rfl | decide +kernel)), by decide, by decide⟩
set_option maxRecDepth 20000 in
theorem flX5_40 : FL RX5 40 5 3 := ⟨tb_1 (List.mem_of_getElem? (i := 75) (by first | exact rfl | decide +kernel)), by decide, by decide⟩
set_option maxRecDepth 20000 in
theorem flX5_43 : FL RX5 43 5 5 := ⟨tb_1 (List.mem_of_getElem? (i := 79) (by first | exact rfl | decide +kernel)), by decide, by decide⟩
set_option maxRecDepth 20000 in
theorem flX5_52 : FL RX5 52 3 6 := ⟨tb_2 (List.mem_of_getElem? (i := 205) (by first | exact rfl | decide +kernel)), by decide, by decide⟩
set_option maxRecDepth 20000 in
theorem flX5_55 : FL RX5 55 3 2 := ⟨tb_2 (List.mem_of_getElem? (i := 197) (by first | exact rfl | decide +kernel)), by decide, by decide⟩
set_option maxRecDepth 20000 in
theorem flX5_58 : FL RX5 58 3 3 := ⟨tb_2 (List.mem_of_getElem? (i := 198) (by first | exact rfl | decide +kernel)), by decide, by decide⟩
set_option maxRecDepth 20000 in
theorem flX5_61 : FL RX5 61 3 4 := ⟨tb_2 (List.mem_of_getElem? (i := 201) (by first | exact rfl | decide +kernel)), by decide, by decide⟩
set_option maxRecDepth 20000 in
theorem flX5_64 : FL RX5 64 3 5 := ⟨tb_2 (List.mem_of_getElem? (i := 202) (by first | exact rfl | decide +kernel)), by decide, by decide⟩
set_option maxRecDepth 20000 in
theorem flX7_7 : FL RX7 7 7 1 := ⟨tb_3 (List.mem_of_getElem? (i := 91) (by first | exact rfl | decide +kernel)), by decide, by decide⟩
set_option maxRecDepth 20000 in
theorem flX7_13 : FL RX7 13 7 2 := ⟨tb_3 (List.mem_of_getElem? (i := 92) (by first | exact rfl | decide +kernel)), by decide, by decide⟩
set_option maxRecDepth 20000 in
theorem flX7_16 : FL RX7 16 7 3 := ⟨tb_3 (List.mem_of_getElem? (i := 93) (by first | exact rfl | decide +kernel)), by decide, by decide⟩
set_option maxRecDepth 20000 in
theorem flX7_20 : FL RX7 20 7 4 := ⟨tb_3 (List.mem_of_getElem? (i := 94) (by first | exact rfl | decide +kernel)), by decide, by decide⟩
set_option maxRecDepth 20000 in
theorem flX7_23 : FL RX7 23 7 5 := ⟨tb_3 (List.mem_of_getElem? (i := 95) (by first | exact rfl | decide +kernel)), by decide, by decide⟩
set_option maxRecDepth 20000 in
theorem flX7_26 : FL RX7 26 7 6 := ⟨tb_3 (List.mem_of_getElem? (i := 96) (by first | exact rfl | decide +kernel)), by decide, by decide⟩
set_option maxRecDepth 20000 in
theorem flX7_29 : FL RX7 29 7 7 := ⟨tb_3 (List.mem_of_getElem? (i := 97) (by first | exact rfl | decide +kernel)), by decide, by decide⟩
set_option maxRecDepth 20000 in
theorem flX7_32 : FL RX7 32 7 8 := ⟨tb_3 (List.mem_of_getElem? (i := 98) (by first | exact rfl | decide +kernel)), by decide, by decide⟩
set_option maxRecDepth 20000 in
theorem flX7_35 : FL RX7 35 7 9 := ⟨tb_3 (List.mem_of_getElem? (i := 99) (by first | exact rfl | decide +kernel)), by decide, by decide⟩
set_option maxRecDepth 20000 in
theorem flX7_38 : FL RX7 38 7 10 := ⟨tb_3 (List.mem_of_getElem? (i := 100) (by first | exact rfl | decide +kernel)), by decide, by decide⟩
set_option maxRecDepth 20000 in
theorem flX7_41 : FL RX7 41 7 11 := ⟨tb_3 (List.mem_of_getElem? (i := 101) (by first | exact rfl | decide +kernel)), by decide, by decide⟩
set_option maxRecDepth 20000 in
theorem flX7_44 : FL RX7 44 7 12 := ⟨tb_3 (List.mem_of_getElem? (i := 102) (by first | exact rfl | decide +kernel)), by decide, by decide⟩
set_option maxRecDepth 20000 in
theorem flX7_47 : FL RX7 47 7 13 := ⟨tb_3 (List.mem_of_getElem? (i := 103) (by first | exact rfl | decide +kernel)), by decide, by decide⟩
set_option maxRecDepth 20000 in
theorem flX7_50 : FL RX7 50 7 14 := ⟨tb_3 (List.mem_of_getElem? (i := 104) (by first | exact rfl | decide +kernel)), by decide, by decide⟩
set_option maxRecDepth 20000 in
theorem flX7_53 : FL RX7 53 7 15 := ⟨tb_3 (List.mem_of_getElem? (i := 105) (by first | exact rfl | decide +kernel)), by decide, by decide⟩
set_option maxRecDepth 20000 in
theorem flX7_56 : FL RX7 56 7 16 := ⟨tb_3 (List.mem_of_getElem? (i := 106) (by first | exact rfl | decide +kernel)), by decide, by decide⟩
set_option maxRecDepth 20000 in
theorem flX7_59 : FL RX7 59 7 18 := ⟨tb_3 (List.mem_of_getElem? (i := 108) (by first | exact rfl | decide +kernel)), by decide, by decide⟩
set_option maxRecDepth 20000 in
theorem flX7_62 : FL RX7 62 7 19 := ⟨tb_3 (List.mem_of_getElem? (i := 109) (by first | exact rfl | decide +kernel)), by decide, by decide⟩
set_option maxRecDepth 20000 in
theorem flX7_65 : FL RX7 65 7 20 := ⟨tb_3 (List.mem_of_getElem? (i := 110) (by first | exact rfl | decide +kernel)), by decide, by decide⟩
set_option maxRecDepth 20000 in
theorem flX7_68 : FL RX7 68 7 22 := ⟨tb_3 (List.mem_of_getElem? (i := 112) (by first | exact rfl | decide +kernel)), by decide, by decide⟩
set_option maxRecDepth 20000 in
theorem flX7_71 : FL RX7 71 7 23 := ⟨tb_3 (List.mem_of_getElem? (i := 113) (by first | exact rfl | decide +kernel)), by decide, by decide⟩
set_option maxRecDepth 20000 in
theorem flX7_74 : FL RX7 74 7 24 := ⟨tb_3 (List.mem_of_getElem? (i := 114) (by first | exact rfl | decide +kernel)), by decide, by decide⟩
set_option maxRecDepth 20000 in
theorem flX7_77 : FL RX7 77 7 26 := ⟨tb_3 (List.mem_of_getElem? (i := 116) (by first | exact rfl | decide +kernel)), by decide, by decide⟩
set_option maxRecDepth 20000 in
theorem flX7_80 : FL RX7 80 7 27 := ⟨tb_3 (List.mem_of_getElem? (i := 117) (by first | exact rfl | decide +kernel)), by decide, by decide⟩
set_option maxRecDepth 20000 in
theorem flX7_83 : FL RX7 83 7 28 := ⟨tb_3 (List.mem_of_getElem? (i := 118) (by first | exact rfl | decide +kernel)), by decide, by decide⟩
set_option maxRecDepth 20000 in
theorem flX7_86 : FL RX7 86 7 29 := ⟨tb_3 (List.mem_of_getElem? (i := 119) (by first | exact rfl | decide +kernel)), by decide, by decide⟩
set_option maxRecDepth 20000 in
theorem flX7_89 : FL RX7 89 7 30 := ⟨tb_3 (List.mem_of_getElem? (i := 120) (by first | exact rfl | decide +kernel)), by decide, by decide⟩
set_option maxRecDepth 20000 in
theorem flX7_92 : FL RX7 92 7 31 := ⟨tb_3 (List.mem_of_getElem? (i := 121) (by first | exact rfl | decide +kernel)), by decide, by decide⟩
set_option maxRecDepth 20000 in
theorem flX7_95 : FL RX7 95 7 32 := ⟨tb_3 (List.mem_of_getElem? (i := 122) (by first | exact rfl | decide +kernel)), by decide, by decide⟩
set_option maxRecDepth 20000 in
theorem flX7_98 : FL RX7 98 7 33 := ⟨tb_3 (List.mem_of_getElem? (i := 123) (by first | exact rfl | decide +kernel)), by decide, by decide⟩
set_option maxRecDepth 20000 in
theorem flX7_101 : FL RX7 101 7 34 := ⟨tb_3 (List.mem_of_getElem? (i := 124) (by first | exact rfl | decide +kernel)), by decide, by decide⟩
set_option maxRecDepth 20000 in
theorem flX7_104 : FL RX7 104 7 35 := ⟨tb_3 (List.mem_of_getElem? (i := 125) (by first | exact rfl | decide +kernel)), by decide, by decide⟩
set_option maxRecDepth 20000 in
theorem flX7_107 : FL RX7 107 7 36 := ⟨tb_3 (List.mem_of_getElem? (i := 126) (by first | exact rfl | decide +kernel)), by decide, by decide⟩
set_option maxRecDepth 20000 in
theorem flX7_110 : FL RX7 110 7 39 := ⟨tb_3 (List.mem_of_getElem? (i := 129) (by first | exact rfl | decide +kernel)), by decide, by decide⟩
set_option maxRecDepth 20000 in
theorem flX7_113 : FL RX7 113 7 40 := ⟨tb_3 (List.mem_of_getElem? (i := 130) (by first | exact rfl | decide +kernel)), by decide, by decide⟩
set_option maxRecDepth 20000 in
theorem flX7_116 : FL RX7 116 7 41 := ⟨tb_3 (List.mem_of_getElem? (i := 131) (by first | exact rfl | decide +kernel)), by decide, by decide⟩
set_option maxRecDepth 20000 in
theorem flX7_119 : FL RX7 119 7 42 := ⟨tb_3 (List.mem_of_getElem? (i := 132) (by first | exact rfl | decide +kernel)), by decide, by decide⟩
set_option maxRecDepth 20000 in
theorem flX7_122 : FL RX7 122 7 43 := ⟨tb_3 (List.mem_of_getElem? (i := 133) (by first | exact rfl | decide +kernel)), by decide, by decide⟩
set_option maxRecDepth 20000 in
theorem flX7_125 : FL RX7 125 7 57 := ⟨tb_3 (List.mem_of_getElem? (i := 147) (by first | exact rfl | decide +kernel)), by decide, by decide⟩
set_option maxRecDepth 20000 in
theorem flX7_128 : FL RX7 128 7 0 := ⟨tb_3 (List.mem_of_getElem? (i := 90) (by first | exact rfl | decide +kernel)), by decide, by decide⟩
set_option maxRecDepth 20000 in
theorem flX7_140 : FL RX7 140 7 17 := ⟨tb_3 (List.mem_of_getElem? (i := 107) (by first | exact rfl | decide +kernel)), by decide, by decide⟩
set_option maxRecDepth 20000 in
theorem flX7_164 : FL RX7 164 7 21 := ⟨tb_3 (List.mem_of_getElem? (i := 111) (by first | exact rfl | decide +kernel)), by decide, by decide⟩
set_option maxRecDepth 20000 in
theorem flX7_170 : FL RX7 170 7 25 := ⟨tb_3 (List.mem_of_getElem? (i := 115) (by first | exact rfl | decide +kernel)), by decide, by decide⟩
set_option maxRecDepth 20000 in
theorem flX7_191 : FL RX7 191 7 37 := ⟨tb_3 (List.mem_of_getElem? (i := 127) (by first | exact rfl | decide +kernel)), by decide, by decide⟩
set_option maxRecDepth 20000 in
theorem flX7_194 : FL RX7 194 7 47 := ⟨tb_3 (List.mem_of_getElem? (i := 137) (by first | exact rfl | decide +kernel)), by decide, by decide⟩
set_option maxRecDepth 20000 in
theorem flX7_197 : FL RX7 197 7 49 := ⟨tb_3 (List.mem_of_getElem? (i := 139) (by first | exact rfl | decide +kernel)), by decide, by decide⟩
set_option maxRecDepth 20000 in
theorem flX7_201 : FL RX7 201 7 50 := ⟨tb_3 (List.mem_of_getElem? (i := 140) (by first | exact rfl | decide +kernel)), by decide, by decide⟩
set_option maxRecDepth 20000 in
theorem flX7_204 : FL RX7 204 7 51 := ⟨tb_3 (List.mem_of_getElem? (i := 141) (by first | exact rfl | decide +kernel)), by decide, by decide⟩
set_option maxRecDepth 20000 in
theorem flX7_207 : FL RX7 207 7 52 := ⟨tb_3 (List.mem_of_getElem? (i := 142) (by first | exact rfl | decide +kernel)), by decide, by decide⟩
set_option maxRecDepth 20000 in
theorem flX7_210 : FL RX7 210 7 44 := ⟨tb_3 (List.mem_of_getElem? (i := 134) (by first | exact rfl | decide +kernel)), by decide, by decide⟩
set_option maxRecDepth 20000 in
theorem flX7_213 : FL RX7 213 7 38 := ⟨tb_3 (List.mem_of_getElem? (i := 128) (by first | exact rfl | decide +kernel)), by decide, by decide⟩
set_option maxRecDepth 20000 in
theorem flX7_216 : FL RX7 216 7 46 := ⟨tb_3 (List.mem_of_getElem? (i := 136) (by first | exact rfl | decide +kernel)), by decide, by decide⟩
set_option maxRecDepth 20000 in
theorem flX7_225 : FL RX7 225 7 48 := ⟨tb_3 (List.mem_of_getElem? (i := 138) (by first | exact rfl | decide +kernel)), by decide, by decide⟩
set_option maxRecDepth 20000 in
theorem flX7_231 : FL RX7 231 7 53 := ⟨tb_3 (List.mem_of_getElem? (i := 143) (by first | exact rfl | decide +kernel)), by decide, by decide⟩
set_option maxRecDepth 20000 in
theorem flX7_234 : FL RX7 234 7 54 := ⟨tb_3 (List.mem_of_getElem? (i := 144) (by first | exact rfl | decide +kernel)), by decide, by decide⟩
set_option maxRecDepth 20000 in
theorem flX7_237 : FL RX7 237 7 55 := ⟨tb_3 (List.mem_of_getElem? (i := 145) (by first | exact rfl | decide +kernel)), by decide, by decide⟩
set_option maxRecDepth 20000 in
theorem flX7_240 : FL RX7 240 7 56 := ⟨tb_3 (List.mem_of_getElem? (i := 146) (by first | exact rfl | decide +kernel)), by decide, by decide⟩
set_option maxRecDepth 20000 in
theorem flX7_250 : FL RX7 250 7 45 := ⟨tb_3 (List.mem_of_getElem? (i := 135) (by first | exact rfl | decide +kernel)), by decide, by decide⟩
set_option maxRecDepth 20000 in
theorem mlX6_1 : MLk RX6 1 objectInit := tb_1 (List.mem_of_getElem? (i := 17) (by first | exact rfl | decide +kernel))
set_option maxRecDepth 20000 in
theorem mlX6_9 : MLk RX6 9 yX2_init := tb_1 (List.mem_of_getElem? (i := 22) (by first | exact rfl | decide +kernel))
set_option maxRecDepth 20000 in
theorem mlX6_31 : MLk RX6 31 yX2_knows := tb_1 (List.mem_of_getElem? (i := 123) (by first | exact rfl | decide +kernel))
set_option maxRecDepth 20000 in
theorem mlX6_45 : MLk RX6 45 yX6_addType := tb_1 (List.mem_of_getElem? (i := 127) (by first | exact rfl | decide +kernel))
set_option maxRecDepth 20000 in
theorem mlX6_52 : MLk RX6 52 yX4_init := tb_1 (List.mem_of_getElem? (i := 133) (by first | exact rfl | decide +kernel))
set_option maxRecDepth 20000 in
theorem mlX6_55 : MLk RX6 55 yX2_append := tb_1 (List.mem_of_getElem? (i := 223) (by first | exact rfl | decide +kernel))
set_option maxRecDepth 20000 in
theorem mlX6_62 : MLk RX6 62 yX4_isUnder := tb_1 (List.mem_of_getElem? (i := 235) (by first | exact rfl | decide +kernel))
set_option maxRecDepth 20000 in
theorem mlX6_65 : MLk RX6 65 yX2_leadsTo := tb_1 (List.mem_of_getElem? (i := 239) (by first | exact rfl | decide +kernel))
set_option maxRecDepth 20000 in
theorem mlX6_69 : MLk RX6 69 yX2_putUnder := tb_2 (List.mem_of_getElem? (i := 3) (by first | exact rfl | decide +kernel))
set_option maxRecDepth 20000 in
theorem mlX6_73 : MLk RX6 73 yX6_refusalOfMember := tb_2 (List.mem_of_getElem? (i := 16) (by first | exact rfl | decide +kernel))
set_option maxRecDepth 20000 in
theorem mlX6_84 : MLk RX6 84 yX4_addField := tb_2 (List.mem_of_getElem? (i := 23) (by first | exact rfl | decide +kernel))
set_option maxRecDepth 20000 in
theorem mlX6_88 : MLk RX6 88 yX2_forgetFields := tb_2 (List.mem_of_getElem? (i := 27) (by first | exact rfl | decide +kernel))
set_option maxRecDepth 20000 in
theorem mlX6_98 : MLk RX6 98 yX4_addMethod := tb_2 (List.mem_of_getElem? (i := 32) (by first | exact rfl | decide +kernel))
set_option maxRecDepth 20000 in
theorem mlX6_102 : MLk RX6 102 yX6_isName := tb_2 (List.mem_of_getElem? (i := 20) (by first | exact rfl | decide +kernel))
set_option maxRecDepth 20000 in
theorem mlX6_105 : MLk RX6 105 yX6_usesType := tb_2 (List.mem_of_getElem? (i := 40) (by first | exact rfl | decide +kernel))
set_option maxRecDepth 20000 in
theorem mlX6_108 : MLk RX6 108 yX6_usesName := tb_2 (List.mem_of_getElem? (i := 43) (by first | exact rfl | decide +kernel))
set_option maxRecDepth 20000 in
theorem mlX6_111 : MLk RX6 111 yX6_fitsValue := tb_2 (List.mem_of_getElem? (i := 46) (by first | exact rfl | decide +kernel))
set_option maxRecDepth 20000 in
theorem mlX6_114 : MLk RX6 114 yX4_bodyOf := tb_2 (List.mem_of_getElem? (i := 49) (by first | exact rfl | decide +kernel))
set_option maxRecDepth 20000 in
theorem mlX6_125 : MLk RX6 125 yX0_init := tb_2 (List.mem_of_getElem? (i := 56) (by first | exact rfl | decide +kernel))
set_option maxRecDepth 20000 in
theorem mlX6_128 : MLk RX6 128 yX1_append := tb_2 (List.mem_of_getElem? (i := 80) (by first | exact rfl | decide +kernel))
set_option maxRecDepth 20000 in
theorem mlX6_131 : MLk RX6 131 yX2_countLeading := tb_2 (List.mem_of_getElem? (i := 88) (by first | exact rfl | decide +kernel))
set_option maxRecDepth 20000 in
theorem mlX6_135 : MLk RX6 135 yX4_tell := tb_2 (List.mem_of_getElem? (i := 92) (by first | exact rfl | decide +kernel))
set_option maxRecDepth 20000 in
theorem mlX6_138 : MLk RX6 138 yX2_methodOwner := tb_2 (List.mem_of_getElem? (i := 104) (by first | exact rfl | decide +kernel))
set_option maxRecDepth 20000 in
theorem mlX6_141 : MLk RX6 141 yX2_fieldOwner := tb_2 (List.mem_of_getElem? (i := 108) (by first | exact rfl | decide +kernel))
set_option maxRecDepth 20000 in
theorem mlX6_144 : MLk RX6 144 yX2_listAsked := tb_2 (List.mem_of_getElem? (i := 120) (by first | exact rfl | decide +kernel))
set_option maxRecDepth 20000 in
theorem mlX6_153 : MLk RX6 153 yX2_inRound := tb_2 (List.mem_of_getElem? (i := 150) (by first | exact rfl | decide +kernel))
set_option maxRecDepth 20000 in
theorem mlX6_156 : MLk RX6 156 yX5_clear := tb_2 (List.mem_of_getElem? (i := 160) (by first | exact rfl | decide +kernel))
set_option maxRecDepth 20000 in
theorem mlX6_159 : MLk RX6 159 yX6_refusalOfTouch := tb_2 (List.mem_of_getElem? (i := 173) (by first | exact rfl | decide +kernel))
set_option maxRecDepth 20000 in
theorem mlX6_163 : MLk RX6 163 yX5_takeStateOf := tb_2 (List.mem_of_getElem? (i := 181) (by first | exact rfl | decide +kernel))
set_option maxRecDepth 20000 in
theorem mlX6_169 : MLk RX6 169 yX3_init := tb_2 (List.mem_of_getElem? (i := 190) (by first | exact rfl | decide +kernel))
set_option maxRecDepth 20000 in
theorem mlX6_172 : MLk RX6 172 yX3_doTouch := tb_2 (List.mem_of_getElem? (i := 221) (by first | exact rfl | decide +kernel))
set_option maxRecDepth 20000 in
theorem mlX6_175 : MLk RX6 175 yX5_keepAccount := tb_3 (List.mem_of_getElem? (i := 36) (by first | exact rfl | decide +kernel))
set_option maxRecDepth 20000 in
theorem mlX6_179 : MLk RX6 179 yX6_comesTo := tb_3 (List.mem_of_getElem? (i := 40) (by first | exact rfl | decide +kernel))
set_option maxRecDepth 20000 in
theorem mlX6_182 : MLk RX6 182 yX6_isWorld := tb_2 (List.mem_of_getElem? (i := 177) (by first | exact rfl | decide +kernel))
set_option maxRecDepth 20000 in
theorem mlX6_200 : MLk RX6 200 yX2_valueOf := tb_3 (List.mem_of_getElem? (i := 63) (by first | exact rfl | decide +kernel))
set_option maxRecDepth 20000 in
theorem mlX6_213 : MLk RX6 213 yX5_sameIn := tb_3 (List.mem_of_getElem? (i := 80) (by first | exact rfl | decide +kernel))
set_option maxRecDepth 20000 in
theorem mlX0_1 : MLk RX0 1 objectInit := tb_2 (List.mem_of_getElem? (i := 59) (by first | exact rfl | decide +kernel))
set_option maxRecDepth 20000 in
theorem mlX1_3 : MLk RX1 3 objectInit := tb_1 (List.mem_of_getElem? (i := 143) (by first | exact rfl | decide +kernel))
set_option maxRecDepth 20000 in
theorem mlX2_3 : MLk RX2 3 objectInit := tb_1 (List.mem_of_getElem? (i := 25) (by first | exact rfl | decide +kernel))
set_option maxRecDepth 20000 in
theorem mlX2_28 : MLk RX2 28 yJ7_fill_53178 := tb_1 (List.mem_of_getElem? (i := 28) (by first | exact rfl | decide +kernel))
set_option maxRecDepth 20000 in
theorem mlX2_45 : MLk RX2 45 yX2_leadsTo := tb_2 (List.mem_of_getElem? (i := 7) (by first | exact rfl | decide +kernel))
set_option maxRecDepth 20000 in
theorem mlX2_55 : MLk RX2 55 yX2_forgetFields := tb_2 (List.mem_of_getElem? (i := 8) (by first | exact rfl | decide +kernel))
set_option maxRecDepth 20000 in
theorem mlX2_58 : MLk RX2 58 yX2_seekField := tb_2 (List.mem_of_getElem? (i := 112) (by first | exact rfl | decide +kernel))
set_option maxRecDepth 20000 in
theorem mlX2_82 : MLk RX2 82 yX2_startedByField := tb_2 (List.mem_of_getElem? (i := 140) (by first | exact rfl | decide +kernel))
set_option maxRecDepth 20000 in
theorem mlX2_92 : MLk RX2 92 yX2_methodOwner := tb_2 (List.mem_of_getElem? (i := 145) (by first | exact rfl | decide +kernel))
set_option maxRecDepth 20000 in
theorem mlX2_103 : MLk RX2 103 yX2_fieldOwner := tb_2 (List.mem_of_getElem? (i := 144) (by first | exact rfl | decide +kernel))
set_option maxRecDepth 20000 in
theorem mlX2_109 : MLk RX2 109 yX2_addFirst := tb_2 (List.mem_of_getElem? (i := 132) (by first | exact rfl | decide +kernel))
set_option maxRecDepth 20000 in
theorem mlX2_122 : MLk RX2 122 yX2_addAsked := tb_2 (List.mem_of_getElem? (i := 124) (by first | exact rfl | decide +kernel))
set_option maxRecDepth 20000 in
theorem mlX2_126 : MLk RX2 126 yX2_orderFirsts := tb_2 (List.mem_of_getElem? (i := 128) (by first | exact rfl | decide +kernel))
set_option maxRecDepth 20000 in
theorem mlX2_143 : MLk RX2 143 yX2_startedBy := tb_2 (List.mem_of_getElem? (i := 136) (by first | exact rfl | decide +kernel))
set_option maxRecDepth 20000 in
theorem mlX2_146 : MLk RX2 146 yX2_listAsked := tb_2 (List.mem_of_getElem? (i := 154) (by first | exact rfl | decide +kernel))
set_option maxRecDepth 20000 in
theorem mlX3_3 : MLk RX3 3 objectInit := tb_2 (List.mem_of_getElem? (i := 193) (by first | exact rfl | decide +kernel))
set_option maxRecDepth 20000 in
theorem mlX3_26 : MLk RX3 26 yX3_perform := tb_2 (List.mem_of_getElem? (i := 225) (by first | exact rfl | decide +kernel))
set_option maxRecDepth 20000 in
theorem mlX3_38 : MLk RX3 38 yX3_arise := tb_2 (List.mem_of_getElem? (i := 229) (by first | exact rfl | decide +kernel))
set_option maxRecDepth 20000 in
theorem mlX3_42 : MLk RX3 42 yX2_startedBy := tb_2 (List.mem_of_getElem? (i := 233) (by first | exact rfl | decide +kernel))
set_option maxRecDepth 20000 in
theorem mlX3_48 : MLk RX3 48 yX3_startType := tb_2 (List.mem_of_getElem? (i := 234) (by first | exact rfl | decide +kernel))
set_option maxRecDepth 20000 in
theorem mlX3_59 : MLk RX3 59 yX4_bodyOf := tb_3 (List.mem_of_getElem? (i := 26) (by first | exact rfl | decide +kernel))
set_option maxRecDepth 20000 in
theorem mlX3_65 : MLk RX3 65 yX3_runBody := tb_3 (List.mem_of_getElem? (i := 11) (by first | exact rfl | decide +kernel))
set_option maxRecDepth 20000 in
theorem mlX3_69 : MLk RX3 69 yX3_putThrough := tb_3 (List.mem_of_getElem? (i := 27) (by first | exact rfl | decide +kernel))
set_option maxRecDepth 20000 in
theorem mlX3_73 : MLk RX3 73 yX5_putOnTape := tb_3 (List.mem_of_getElem? (i := 22) (by first | exact rfl | decide +kernel))
set_option maxRecDepth 20000 in
theorem mlX3_82 : MLk RX3 82 yX2_fieldOwner := tb_3 (List.mem_of_getElem? (i := 31) (by first | exact rfl | decide +kernel))
set_option maxRecDepth 20000 in
theorem mlX3_85 : MLk RX3 85 yX2_valueOf := tb_3 (List.mem_of_getElem? (i := 32) (by first | exact rfl | decide +kernel))
set_option maxRecDepth 20000 in
theorem mlX3_99 : MLk RX3 99 yX3_startFirsts := tb_2 (List.mem_of_getElem? (i := 238) (by first | exact rfl | decide +kernel))
set_option maxRecDepth 20000 in
theorem mlX3_103 : MLk RX3 103 yX3_runStart := tb_3 (List.mem_of_getElem? (i := 3) (by first | exact rfl | decide +kernel))
set_option maxRecDepth 20000 in
theorem mlX3_113 : MLk RX3 113 yX2_orderFirsts := tb_3 (List.mem_of_getElem? (i := 2) (by first | exact rfl | decide +kernel))
set_option maxRecDepth 20000 in
theorem mlX3_123 : MLk RX3 123 yX5_putInRow := tb_3 (List.mem_of_getElem? (i := 7) (by first | exact rfl | decide +kernel))
set_option maxRecDepth 20000 in
theorem mlX3_136 : MLk RX3 136 yJ9_max_7cf53 := tb_3 (List.mem_of_getElem? (i := 15) (by first | exact rfl | decide +kernel))
set_option maxRecDepth 20000 in
theorem mlX3_149 : MLk RX3 149 yX3_takeFailure := tb_3 (List.mem_of_getElem? (i := 18) (by first | exact rfl | decide +kernel))
set_option maxRecDepth 20000 in
theorem mlX4_3 : MLk RX4 3 objectInit := tb_1 (List.mem_of_getElem? (i := 136) (by first | exact rfl | decide +kernel))
set_option maxRecDepth 20000 in
theorem mlX5_3 : MLk RX5 3 objectInit := tb_1 (List.mem_of_getElem? (i := 66) (by first | exact rfl | decide +kernel))
set_option maxRecDepth 20000 in
theorem mlX5_34 : MLk RX5 34 yJ7_fill_53178 := tb_2 (List.mem_of_getElem? (i := 164) (by first | exact rfl | decide +kernel))
set_option maxRecDepth 20000 in
theorem mlL_9 : MLk RL 9 yX6_init := tb_1 (List.mem_of_getElem? (i := 14) (by first | exact rfl | decide +kernel))
set_option maxRecDepth 20000 in
theorem mlL_12 : MLk RL 12 yX7_init := tb_3 (List.mem_of_getElem? (i := 86) (by first | exact rfl | decide +kernel))
set_option maxRecDepth 20000 in
theorem mlL_13 : MLk RL 13 yX6_cls := tb_1 (List.mem_of_getElem? (i := 119) (by first | exact rfl | decide +kernel))
set_option maxRecDepth 20000 in
theorem mlL_17 : MLk RL 17 yX7_cls := tb_4 (List.mem_of_getElem? (i := 26) (by first | exact rfl | decide +kernel))
set_option maxRecDepth 20000 in
theorem mlL_18 : MLk RL 18 yX6_face := tb_1 (List.mem_of_getElem? (i := 227) (by first | exact rfl | decide +kernel))
set_option maxRecDepth 20000 in
theorem mlL_22 : MLk RL 22 yX7_face := tb_4 (List.mem_of_getElem? (i := 41) (by first | exact rfl | decide +kernel))
set_option maxRecDepth 20000 in
theorem mlL_23 : MLk RL 23 yX6_under := tb_1 (List.mem_of_getElem? (i := 231) (by first | exact rfl | decide +kernel))
set_option maxRecDepth 20000 in
theorem mlL_27 : MLk RL 27 yX7_under := tb_4 (List.mem_of_getElem? (i := 45) (by first | exact rfl | decide +kernel))
set_option maxRecDepth 20000 in
theorem mlL_28 : MLk RL 28 yX6_field := tb_2 (List.mem_of_getElem? (i := 12) (by first | exact rfl | decide +kernel))
set_option maxRecDepth 20000 in
theorem mlL_32 : MLk RL 32 yX7_field := tb_4 (List.mem_of_getElem? (i := 53) (by first | exact rfl | decide +kernel))
set_option maxRecDepth 20000 in
theorem mlL_33 : MLk RL 33 yX6_method := tb_2 (List.mem_of_getElem? (i := 28) (by first | exact rfl | decide +kernel))
set_option maxRecDepth 20000 in
theorem mlL_36 : MLk RL 36 yX7_method := tb_4 (List.mem_of_getElem? (i := 61) (by first | exact rfl | decide +kernel))
set_option maxRecDepth 20000 in
theorem mlL_37 : MLk RL 37 yX6_act := tb_2 (List.mem_of_getElem? (i := 36) (by first | exact rfl | decide +kernel))
set_option maxRecDepth 20000 in
theorem mlL_41 : MLk RL 41 yX7_act := tb_4 (List.mem_of_getElem? (i := 69) (by first | exact rfl | decide +kernel))
set_option maxRecDepth 20000 in
theorem mlL_42 : MLk RL 42 yX6_told := tb_2 (List.mem_of_getElem? (i := 84) (by first | exact rfl | decide +kernel))
set_option maxRecDepth 20000 in
theorem mlL_45 : MLk RL 45 yX7_told := tb_4 (List.mem_of_getElem? (i := 73) (by first | exact rfl | decide +kernel))
set_option maxRecDepth 20000 in
theorem mlL_46 : MLk RL 46 yX6_below := tb_2 (List.mem_of_getElem? (i := 96) (by first | exact rfl | decide +kernel))
set_option maxRecDepth 20000 in
theorem mlL_49 : MLk RL 49 yX7_below := tb_4 (List.mem_of_getElem? (i := 77) (by first | exact rfl | decide +kernel))
set_option maxRecDepth 20000 in
theorem mlL_50 : MLk RL 50 yX6_found := tb_2 (List.mem_of_getElem? (i := 100) (by first | exact rfl | decide +kernel))
set_option maxRecDepth 20000 in
theorem mlL_54 : MLk RL 54 yX7_found := tb_4 (List.mem_of_getElem? (i := 81) (by first | exact rfl | decide +kernel))
set_option maxRecDepth 20000 in
theorem mlL_55 : MLk RL 55 yX6_asks := tb_2 (List.mem_of_getElem? (i := 116) (by first | exact rfl | decide +kernel))
set_option maxRecDepth 20000 in
theorem mlL_58 : MLk RL 58 yX7_asks := tb_4 (List.mem_of_getElem? (i := 93) (by first | exact rfl | decide +kernel))
set_option maxRecDepth 20000 in
theorem mlL_59 : MLk RL 59 yX6_round := tb_2 (List.mem_of_getElem? (i := 146) (by first | exact rfl | decide +kernel))
set_option maxRecDepth 20000 in
theorem mlL_63 : MLk RL 63 yX7_round := tb_4 (List.mem_of_getElem? (i := 117) (by first | exact rfl | decide +kernel))
set_option maxRecDepth 20000 in
theorem mlL_64 : MLk RL 64 yX6_world := tb_2 (List.mem_of_getElem? (i := 156) (by first | exact rfl | decide +kernel))
set_option maxRecDepth 20000 in
theorem mlL_68 : MLk RL 68 yX7_world := tb_4 (List.mem_of_getElem? (i := 125) (by first | exact rfl | decide +kernel))
set_option maxRecDepth 20000 in
theorem mlL_69 : MLk RL 69 yX6_gone := tb_2 (List.mem_of_getElem? (i := 165) (by first | exact rfl | decide +kernel))
set_option maxRecDepth 20000 in
theorem mlL_72 : MLk RL 72 yX7_gone := tb_4 (List.mem_of_getElem? (i := 129) (by first | exact rfl | decide +kernel))
set_option maxRecDepth 20000 in
theorem mlL_73 : MLk RL 73 yX6_touch := tb_2 (List.mem_of_getElem? (i := 169) (by first | exact rfl | decide +kernel))
set_option maxRecDepth 20000 in
theorem mlL_77 : MLk RL 77 yX7_touch := tb_4 (List.mem_of_getElem? (i := 133) (by first | exact rfl | decide +kernel))
set_option maxRecDepth 20000 in
theorem mlL_78 : MLk RL 78 yX6_foretell := tb_3 (List.mem_of_getElem? (i := 43) (by first | exact rfl | decide +kernel))
set_option maxRecDepth 20000 in
theorem mlL_81 : MLk RL 81 yX7_foretell := tb_4 (List.mem_of_getElem? (i := 213) (by first | exact rfl | decide +kernel))
set_option maxRecDepth 20000 in
theorem mlL_82 : MLk RL 82 yX6_state := tb_3 (List.mem_of_getElem? (i := 47) (by first | exact rfl | decide +kernel))
set_option maxRecDepth 20000 in
theorem mlL_85 : MLk RL 85 yX7_state := tb_4 (List.mem_of_getElem? (i := 217) (by first | exact rfl | decide +kernel))
set_option maxRecDepth 20000 in
theorem mlL_86 : MLk RL 86 yX6_began := tb_3 (List.mem_of_getElem? (i := 51) (by first | exact rfl | decide +kernel))
set_option maxRecDepth 20000 in
theorem mlL_89 : MLk RL 89 yX7_began := tb_4 (List.mem_of_getElem? (i := 221) (by first | exact rfl | decide +kernel))
set_option maxRecDepth 20000 in
theorem mlL_90 : MLk RL 90 yX6_tape := tb_3 (List.mem_of_getElem? (i := 55) (by first | exact rfl | decide +kernel))
set_option maxRecDepth 20000 in
theorem mlL_93 : MLk RL 93 yX7_tape := tb_4 (List.mem_of_getElem? (i := 225) (by first | exact rfl | decide +kernel))
set_option maxRecDepth 20000 in
theorem mlL_94 : MLk RL 94 yX6_value := tb_3 (List.mem_of_getElem? (i := 59) (by first | exact rfl | decide +kernel))
set_option maxRecDepth 20000 in
theorem mlL_98 : MLk RL 98 yX7_value := tb_4 (List.mem_of_getElem? (i := 229) (by first | exact rfl | decide +kernel))
set_option maxRecDepth 20000 in
theorem mlL_99 : MLk RL 99 yX6_failed := tb_3 (List.mem_of_getElem? (i := 64) (by first | exact rfl | decide +kernel))
set_option maxRecDepth 20000 in
theorem mlL_102 : MLk RL 102 yX7_failed := tb_4 (List.mem_of_getElem? (i := 233) (by first | exact rfl | decide +kernel))
set_option maxRecDepth 20000 in
theorem mlL_103 : MLk RL 103 yX6_spent := tb_3 (List.mem_of_getElem? (i := 68) (by first | exact rfl | decide +kernel))
set_option maxRecDepth 20000 in
theorem mlL_106 : MLk RL 106 yX7_spent := tb_4 (List.mem_of_getElem? (i := 237) (by first | exact rfl | decide +kernel))
set_option maxRecDepth 20000 in
theorem mlL_107 : MLk RL 107 yX6_many := tb_3 (List.mem_of_getElem? (i := 72) (by first | exact rfl | decide +kernel))
set_option maxRecDepth 20000 in
theorem mlL_110 : MLk RL 110 yX7_many := tb_5 (List.mem_of_getElem? (i := 1) (by first | exact rfl | decide +kernel))
set_option maxRecDepth 20000 in
theorem mlL_111 : MLk RL 111 yX6_differs := tb_3 (List.mem_of_getElem? (i := 76) (by first | exact rfl | decide +kernel))
set_option maxRecDepth 20000 in
theorem mlL_114 : MLk RL 114 yX7_differs := tb_5 (List.mem_of_getElem? (i := 5) (by first | exact rfl | decide +kernel))
set_option maxRecDepth 20000 in
theorem mlX7_1 : MLk RX7 1 objectInit := tb_3 (List.mem_of_getElem? (i := 89) (by first | exact rfl | decide +kernel))
set_option maxRecDepth 20000 in
theorem mlX7_132 : MLk RX7 132 yX7_in := tb_4 (List.mem_of_getElem? (i := 34) (by first | exact rfl | decide +kernel))
set_option maxRecDepth 20000 in
theorem mlX7_136 : MLk RX7 136 yX7_isType := tb_4 (List.mem_of_getElem? (i := 30) (by first | exact rfl | decide +kernel))
set_option maxRecDepth 20000 in
theorem mlX7_143 : MLk RX7 143 yX7_make := tb_4 (List.mem_of_getElem? (i := 37) (by first | exact rfl | decide +kernel))
set_option maxRecDepth 20000 in
theorem mlX7_147 : MLk RX7 147 yX7_leads := tb_4 (List.mem_of_getElem? (i := 49) (by first | exact rfl | decide +kernel))
set_option maxRecDepth 20000 in
theorem mlX7_151 : MLk RX7 151 yX7_ownField := tb_4 (List.mem_of_getElem? (i := 57) (by first | exact rfl | decide +kernel))
set_option maxRecDepth 20000 in
theorem mlX7_155 : MLk RX7 155 yX7_ownMethod := tb_4 (List.mem_of_getElem? (i := 65) (by first | exact rfl | decide +kernel))
set_option maxRecDepth 20000 in
theorem mlX7_158 : MLk RX7 158 yX7_findMethod := tb_4 (List.mem_of_getElem? (i := 85) (by first | exact rfl | decide +kernel))
set_option maxRecDepth 20000 in
theorem mlX7_161 : MLk RX7 161 yX7_findField := tb_4 (List.mem_of_getElem? (i := 89) (by first | exact rfl | decide +kernel))
set_option maxRecDepth 20000 in
theorem mlX7_167 : MLk RX7 167 yX7_isRuled := tb_4 (List.mem_of_getElem? (i := 113) (by first | exact rfl | decide +kernel))
set_option maxRecDepth 20000 in
theorem mlX7_173 : MLk RX7 173 yX7_listFirst := tb_4 (List.mem_of_getElem? (i := 101) (by first | exact rfl | decide +kernel))
set_option maxRecDepth 20000 in
theorem mlX7_177 : MLk RX7 177 yX7_addAsked := tb_4 (List.mem_of_getElem? (i := 105) (by first | exact rfl | decide +kernel))
set_option maxRecDepth 20000 in
theorem mlX7_181 : MLk RX7 181 yX7_started := tb_4 (List.mem_of_getElem? (i := 109) (by first | exact rfl | decide +kernel))
set_option maxRecDepth 20000 in
theorem mlX7_185 : MLk RX7 185 yX7_listAsked := tb_4 (List.mem_of_getElem? (i := 97) (by first | exact rfl | decide +kernel))
set_option maxRecDepth 20000 in
theorem mlX7_188 : MLk RX7 188 yX7_isRound := tb_4 (List.mem_of_getElem? (i := 121) (by first | exact rfl | decide +kernel))
set_option maxRecDepth 20000 in
theorem mlX7_219 : MLk RX7 219 yX7_fail := tb_4 (List.mem_of_getElem? (i := 157) (by first | exact rfl | decide +kernel))
set_option maxRecDepth 20000 in
theorem mlX7_222 : MLk RX7 222 yX7_start := tb_4 (List.mem_of_getElem? (i := 173) (by first | exact rfl | decide +kernel))
set_option maxRecDepth 20000 in
theorem mlX7_228 : MLk RX7 228 yX7_pushBody := tb_4 (List.mem_of_getElem? (i := 177) (by first | exact rfl | decide +kernel))
set_option maxRecDepth 20000 in
theorem mlX7_243 : MLk RX7 243 yX7_goBehind := tb_4 (List.mem_of_getElem? (i := 185) (by first | exact rfl | decide +kernel))
set_option maxRecDepth 20000 in
theorem mlX7_246 : MLk RX7 246 yX7_sizeOf := tb_4 (List.mem_of_getElem? (i := 205) (by first | exact rfl | decide +kernel))
set_option maxRecDepth 20000 in
theorem mlX7_253 : MLk RX7 253 yX7_kindAt := tb_4 (List.mem_of_getElem? (i := 201) (by first | exact rfl | decide +kernel))
set_option maxRecDepth 20000 in
theorem mlX7_256 : MLk RX7 256 yX7_typeAt := tb_4 (List.mem_of_getElem? (i := 189) (by first | exact rfl | decide +kernel))
set_option maxRecDepth 20000 in
theorem mlX7_259 : MLk RX7 259 yX7_nameAt := tb_4 (List.mem_of_getElem? (i := 193) (by first | exact rfl | decide +kernel))
set_option maxRecDepth 20000 in
theorem mlX7_262 : MLk RX7 262 yX7_valueAt := tb_4 (List.mem_of_getElem? (i := 197) (by first | exact rfl | decide +kernel))
set_option maxRecDepth 20000 in
theorem mlX7_265 : MLk RX7 265 yX7_did := tb_4 (List.mem_of_getElem? (i := 165) (by first | exact rfl | decide +kernel))
set_option maxRecDepth 20000 in
theorem mlX7_268 : MLk RX7 268 yX7_onTape := tb_4 (List.mem_of_getElem? (i := 161) (by first | exact rfl | decide +kernel))
set_option maxRecDepth 20000 in
theorem mlX7_271 : MLk RX7 271 yX7_goDown := tb_4 (List.mem_of_getElem? (i := 153) (by first | exact rfl | decide +kernel))
set_option maxRecDepth 20000 in
theorem mlX7_274 : MLk RX7 274 yX7_goOnStart := tb_4 (List.mem_of_getElem? (i := 169) (by first | exact rfl | decide +kernel))
set_option maxRecDepth 20000 in
theorem mlX7_277 : MLk RX7 277 yX7_goOnBody := tb_4 (List.mem_of_getElem? (i := 181) (by first | exact rfl | decide +kernel))
set_option maxRecDepth 20000 in
theorem mlX7_280 : MLk RX7 280 yX7_isWorld := tb_4 (List.mem_of_getElem? (i := 141) (by first | exact rfl | decide +kernel))
set_option maxRecDepth 20000 in
theorem mlX7_283 : MLk RX7 283 yX7_refusal := tb_4 (List.mem_of_getElem? (i := 137) (by first | exact rfl | decide +kernel))
set_option maxRecDepth 20000 in
theorem mlX7_287 : MLk RX7 287 yX7_copy := tb_4 (List.mem_of_getElem? (i := 145) (by first | exact rfl | decide +kernel))
set_option maxRecDepth 20000 in
theorem mlX7_290 : MLk RX7 290 yX7_go := tb_4 (List.mem_of_getElem? (i := 149) (by first | exact rfl | decide +kernel))
set_option maxRecDepth 20000 in
theorem mlX7_294 : MLk RX7 294 yX7_cameTo := tb_4 (List.mem_of_getElem? (i := 209) (by first | exact rfl | decide +kernel))
set_option maxRecDepth 20000 in
theorem mnX6_26 : Cond.methodLinkNest RX6 26 yX5_init "StartBench" ∈ lw_tbl := tb_1 (List.mem_of_getElem? (i := 63) (by first | exact rfl | decide +kernel))
set_option maxRecDepth 20000 in
theorem mnX4_27 : Cond.methodLinkNest RX4 27 yX1_init "StartBench" ∈ lw_tbl := tb_1 (List.mem_of_getElem? (i := 140) (by first | exact rfl | decide +kernel))
set_option maxRecDepth 20000 in
theorem mnX4_55 : Cond.methodLinkNest RX4 55 yX6_isName "StartBench" ∈ lw_tbl := tb_2 (List.mem_of_getElem? (i := 53) (by first | exact rfl | decide +kernel))
set_option maxRecDepth 20000 in
theorem ckX6_7 : CLk RX6 7 2 := ⟨tb_1 (List.mem_of_getElem? (i := 20) (by first | exact rfl | decide +kernel)), tb_1 (List.mem_of_getElem? (i := 21) (by first | exact rfl | decide +kernel)), tb_1 (List.mem_of_getElem? (i := 2) (by first | exact rfl | decide +kernel)), by decide⟩
set_option maxRecDepth 20000 in
theorem ckX6_16 : CLk RX6 16 5 := ⟨tb_1 (List.mem_of_getElem? (i := 60) (by first | exact rfl | decide +kernel)), tb_1 (List.mem_of_getElem? (i := 62) (by first | exact rfl | decide +kernel)), tb_1 (List.mem_of_getElem? (i := 4) (by first | exact rfl | decide +kernel)), by decide⟩
set_option maxRecDepth 20000 in
theorem caX6_16 : CLa RX6 16 5 := ⟨tb_1 (List.mem_of_getElem? (i := 60) (by first | exact rfl | decide +kernel)), tb_1 (List.mem_of_getElem? (i := 61) (by first | exact rfl | decide +kernel)), by decide⟩
set_option maxRecDepth 20000 in
theorem ckX6_40 : CLk RX6 40 4 := ⟨tb_1 (List.mem_of_getElem? (i := 131) (by first | exact rfl | decide +kernel)), tb_1 (List.mem_of_getElem? (i := 132) (by first | exact rfl | decide +kernel)), tb_1 (List.mem_of_getElem? (i := 6) (by first | exact rfl | decide +kernel)), by decide⟩
set_option maxRecDepth 20000 in
theorem caX6_40 : CLa RX6 40 4 := ⟨tb_1 (List.mem_of_getElem? (i := 131) (by first | exact rfl | decide +kernel)), tb_1 (List.mem_of_getElem? (i := 27) (by first | exact rfl | decide +kernel)), by decide⟩
set_option maxRecDepth 20000 in
theorem ckX6_123 : CLk RX6 123 0 := ⟨tb_2 (List.mem_of_getElem? (i := 54) (by first | exact rfl | decide +kernel)), tb_2 (List.mem_of_getElem? (i := 55) (by first | exact rfl | decide +kernel)), tb_1 (List.mem_of_getElem? (i := 8) (by first | exact rfl | decide +kernel)), by decide⟩
set_option maxRecDepth 20000 in
theorem caX6_123 : CLa RX6 123 0 := ⟨tb_2 (List.mem_of_getElem? (i := 54) (by first | exact rfl | decide +kernel)), tb_1 (List.mem_of_getElem? (i := 145) (by first | exact rfl | decide +kernel)), by decide⟩
set_option maxRecDepth 20000 in
theorem ckX6_167 : CLk RX6 167 3 := ⟨tb_2 (List.mem_of_getElem? (i := 188) (by first | exact rfl | decide +kernel)), tb_2 (List.mem_of_getElem? (i := 189) (by first | exact rfl | decide +kernel)), tb_1 (List.mem_of_getElem? (i := 10) (by first | exact rfl | decide +kernel)), by decide⟩
set_option maxRecDepth 20000 in
theorem ckX1_9 : CLk RX1 9 0 := ⟨tb_1 (List.mem_of_getElem? (i := 144) (by first | exact rfl | decide +kernel)), tb_2 (List.mem_of_getElem? (i := 55) (by first | exact rfl | decide +kernel)), tb_1 (List.mem_of_getElem? (i := 8) (by first | exact rfl | decide +kernel)), by decide⟩
set_option maxRecDepth 20000 in
theorem caX1_9 : CLa RX1 9 0 := ⟨tb_1 (List.mem_of_getElem? (i := 144) (by first | exact rfl | decide +kernel)), tb_1 (List.mem_of_getElem? (i := 145) (by first | exact rfl | decide +kernel)), by decide⟩
set_option maxRecDepth 20000 in
theorem ckX2_9 : CLk RX2 9 4 := ⟨tb_1 (List.mem_of_getElem? (i := 26) (by first | exact rfl | decide +kernel)), tb_1 (List.mem_of_getElem? (i := 132) (by first | exact rfl | decide +kernel)), tb_1 (List.mem_of_getElem? (i := 6) (by first | exact rfl | decide +kernel)), by decide⟩
set_option maxRecDepth 20000 in
theorem caX2_9 : CLa RX2 9 4 := ⟨tb_1 (List.mem_of_getElem? (i := 26) (by first | exact rfl | decide +kernel)), tb_1 (List.mem_of_getElem? (i := 27) (by first | exact rfl | decide +kernel)), by decide⟩
set_option maxRecDepth 20000 in
theorem ckX4_21 : CLk RX4 21 1 := ⟨tb_1 (List.mem_of_getElem? (i := 137) (by first | exact rfl | decide +kernel)), tb_1 (List.mem_of_getElem? (i := 139) (by first | exact rfl | decide +kernel)), tb_1 (List.mem_of_getElem? (i := 7) (by first | exact rfl | decide +kernel)), by decide⟩
set_option maxRecDepth 20000 in
theorem caX4_21 : CLa RX4 21 1 := ⟨tb_1 (List.mem_of_getElem? (i := 137) (by first | exact rfl | decide +kernel)), tb_1 (List.mem_of_getElem? (i := 138) (by first | exact rfl | decide +kernel)), by decide⟩
set_option maxRecDepth 20000 in
theorem ckL_7 : CLk RL 7 6 := ⟨tb_1 (List.mem_of_getElem? (i := 12) (by first | exact rfl | decide +kernel)), tb_1 (List.mem_of_getElem? (i := 13) (by first | exact rfl | decide +kernel)), tb_1 (List.mem_of_getElem? (i := 1) (by first | exact rfl | decide +kernel)), by decide⟩
set_option maxRecDepth 20000 in
theorem ckL_10 : CLk RL 10 7 := ⟨tb_3 (List.mem_of_getElem? (i := 84) (by first | exact rfl | decide +kernel)), tb_3 (List.mem_of_getElem? (i := 85) (by first | exact rfl | decide +kernel)), tb_1 (List.mem_of_getElem? (i := 5) (by first | exact rfl | decide +kernel)), by decide⟩
set_option maxRecDepth 20000 in
theorem mw_X6_init : MWk yX6_init cX6_init 1 (Option.none : Option FieldType) := ⟨tb_1 (List.mem_of_getElem? (i := 16) (by first | exact rfl | decide +kernel)), tb_1 (List.mem_of_getElem? (i := 1) (by first | exact rfl | decide +kernel))⟩
set_option maxRecDepth 20000 in
theorem im_X6_init : IMk yX6_init := tb_1 (List.mem_of_getElem? (i := 15) (by first | exact rfl | decide +kernel))
set_option maxRecDepth 20000 in
theorem mw_X6_act : MWk yX6_act cX6_act 8 (Option.some FieldType.int) := ⟨tb_2 (List.mem_of_getElem? (i := 39) (by first | exact rfl | decide +kernel)), tb_1 (List.mem_of_getElem? (i := 1) (by first | exact rfl | decide +kernel))⟩
set_option maxRecDepth 20000 in
theorem im_X6_act : IMk yX6_act := tb_2 (List.mem_of_getElem? (i := 37) (by first | exact rfl | decide +kernel))
set_option maxRecDepth 20000 in
theorem sl_X6_act : SLk yX6_act := tb_2 (List.mem_of_getElem? (i := 38) (by first | exact rfl | decide +kernel))
set_option maxRecDepth 20000 in
theorem mw_X6_addType : MWk yX6_addType cX6_addType 4 (Option.some FieldType.int) := ⟨tb_1 (List.mem_of_getElem? (i := 130) (by first | exact rfl | decide +kernel)), tb_1 (List.mem_of_getElem? (i := 1) (by first | exact rfl | decide +kernel))⟩
set_option maxRecDepth 20000 in
theorem im_X6_addType : IMk yX6_addType := tb_1 (List.mem_of_getElem? (i := 129) (by first | exact rfl | decide +kernel))
set_option maxRecDepth 20000 in
theorem sl_X6_addType : SLk yX6_addType := tb_0 (List.mem_of_getElem? (i := 0) (by first | exact rfl | decide +kernel))
set_option maxRecDepth 20000 in
theorem mw_X6_asks : MWk yX6_asks cX6_asks 3 (Option.some FieldType.int) := ⟨tb_2 (List.mem_of_getElem? (i := 119) (by first | exact rfl | decide +kernel)), tb_1 (List.mem_of_getElem? (i := 1) (by first | exact rfl | decide +kernel))⟩
set_option maxRecDepth 20000 in
theorem im_X6_asks : IMk yX6_asks := tb_2 (List.mem_of_getElem? (i := 117) (by first | exact rfl | decide +kernel))
set_option maxRecDepth 20000 in
theorem sl_X6_asks : SLk yX6_asks := tb_2 (List.mem_of_getElem? (i := 118) (by first | exact rfl | decide +kernel))
set_option maxRecDepth 20000 in
theorem mw_X6_began : MWk yX6_began cX6_began 4 (Option.some FieldType.int) := ⟨tb_3 (List.mem_of_getElem? (i := 54) (by first | exact rfl | decide +kernel)), tb_1 (List.mem_of_getElem? (i := 1) (by first | exact rfl | decide +kernel))⟩
set_option maxRecDepth 20000 in
theorem im_X6_began : IMk yX6_began := tb_3 (List.mem_of_getElem? (i := 52) (by first | exact rfl | decide +kernel))
set_option maxRecDepth 20000 in
theorem sl_X6_began : SLk yX6_began := tb_3 (List.mem_of_getElem? (i := 53) (by first | exact rfl | decide +kernel))
set_option maxRecDepth 20000 in
theorem mw_X6_below : MWk yX6_below cX6_below 3 (Option.some FieldType.int) := ⟨tb_2 (List.mem_of_getElem? (i := 99) (by first | exact rfl | decide +kernel)), tb_1 (List.mem_of_getElem? (i := 1) (by first | exact rfl | decide +kernel))⟩
set_option maxRecDepth 20000 in
theorem im_X6_below : IMk yX6_below := tb_2 (List.mem_of_getElem? (i := 97) (by first | exact rfl | decide +kernel))
set_option maxRecDepth 20000 in
theorem sl_X6_below : SLk yX6_below := tb_2 (List.mem_of_getElem? (i := 98) (by first | exact rfl | decide +kernel))
set_option maxRecDepth 20000 in
theorem mw_X6_cls : MWk yX6_cls cX6_cls 3 (Option.some FieldType.int) := ⟨tb_1 (List.mem_of_getElem? (i := 122) (by first | exact rfl | decide +kernel)), tb_1 (List.mem_of_getElem? (i := 1) (by first | exact rfl | decide +kernel))⟩
set_option maxRecDepth 20000 in
theorem im_X6_cls : IMk yX6_cls := tb_1 (List.mem_of_getElem? (i := 120) (by first | exact rfl | decide +kernel))
set_option maxRecDepth 20000 in
theorem sl_X6_cls : SLk yX6_cls := tb_1 (List.mem_of_getElem? (i := 121) (by first | exact rfl | decide +kernel))
set_option maxRecDepth 20000 in
theorem mw_X6_comesTo : MWk yX6_comesTo cX6_comesTo 1 (Option.some FieldType.int) := ⟨tb_3 (List.mem_of_getElem? (i := 42) (by first | exact rfl | decide +kernel)), tb_1 (List.mem_of_getElem? (i := 1) (by first | exact rfl | decide +kernel))⟩
set_option maxRecDepth 20000 in
theorem sm_X6_comesTo : SMk yX6_comesTo := tb_3 (List.mem_of_getElem? (i := 41) (by first | exact rfl | decide +kernel))
set_option maxRecDepth 20000 in
theorem mw_X6_differs : MWk yX6_differs cX6_differs 4 (Option.some FieldType.int) := ⟨tb_3 (List.mem_of_getElem? (i := 79) (by first | exact rfl | decide +kernel)), tb_1 (List.mem_of_getElem? (i := 1) (by first | exact rfl | decide +kernel))⟩
set_option maxRecDepth 20000 in
theorem im_X6_differs : IMk yX6_differs := tb_3 (List.mem_of_getElem? (i := 77) (by first | exact rfl | decide +kernel))
set_option maxRecDepth 20000 in
theorem sl_X6_differs : SLk yX6_differs := tb_3 (List.mem_of_getElem? (i := 78) (by first | exact rfl | decide +kernel))
set_option maxRecDepth 20000 in
theorem mw_X6_face : MWk yX6_face cX6_face 2 (Option.some FieldType.int) := ⟨tb_1 (List.mem_of_getElem? (i := 230) (by first | exact rfl | decide +kernel)), tb_1 (List.mem_of_getElem? (i := 1) (by first | exact rfl | decide +kernel))⟩
set_option maxRecDepth 20000 in
theorem im_X6_face : IMk yX6_face := tb_1 (List.mem_of_getElem? (i := 228) (by first | exact rfl | decide +kernel))
set_option maxRecDepth 20000 in
theorem sl_X6_face : SLk yX6_face := tb_1 (List.mem_of_getElem? (i := 229) (by first | exact rfl | decide +kernel))
set_option maxRecDepth 20000 in
theorem mw_X6_failed : MWk yX6_failed cX6_failed 3 (Option.some FieldType.int) := ⟨tb_3 (List.mem_of_getElem? (i := 67) (by first | exact rfl | decide +kernel)), tb_1 (List.mem_of_getElem? (i := 1) (by first | exact rfl | decide +kernel))⟩
set_option maxRecDepth 20000 in
theorem im_X6_failed : IMk yX6_failed := tb_3 (List.mem_of_getElem? (i := 65) (by first | exact rfl | decide +kernel))
set_option maxRecDepth 20000 in
theorem sl_X6_failed : SLk yX6_failed := tb_3 (List.mem_of_getElem? (i := 66) (by first | exact rfl | decide +kernel))
set_option maxRecDepth 20000 in
theorem mw_X6_field : MWk yX6_field cX6_field 7 (Option.some FieldType.int) := ⟨tb_2 (List.mem_of_getElem? (i := 15) (by first | exact rfl | decide +kernel)), tb_1 (List.mem_of_getElem? (i := 1) (by first | exact rfl | decide +kernel))⟩
set_option maxRecDepth 20000 in
theorem im_X6_field : IMk yX6_field := tb_2 (List.mem_of_getElem? (i := 13) (by first | exact rfl | decide +kernel))
set_option maxRecDepth 20000 in
theorem sl_X6_field : SLk yX6_field := tb_2 (List.mem_of_getElem? (i := 14) (by first | exact rfl | decide +kernel))
set_option maxRecDepth 20000 in
theorem mw_X6_fitsValue : MWk yX6_fitsValue cX6_fitsValue 2 (Option.some FieldType.boolean) := ⟨tb_2 (List.mem_of_getElem? (i := 48) (by first | exact rfl | decide +kernel)), tb_1 (List.mem_of_getElem? (i := 1) (by first | exact rfl | decide +kernel))⟩
set_option maxRecDepth 20000 in
theorem sm_X6_fitsValue : SMk yX6_fitsValue := tb_2 (List.mem_of_getElem? (i := 47) (by first | exact rfl | decide +kernel))
set_option maxRecDepth 20000 in
theorem mw_X6_foretell : MWk yX6_foretell cX6_foretell 9 (Option.some FieldType.int) := ⟨tb_3 (List.mem_of_getElem? (i := 46) (by first | exact rfl | decide +kernel)), tb_1 (List.mem_of_getElem? (i := 1) (by first | exact rfl | decide +kernel))⟩
set_option maxRecDepth 20000 in
theorem im_X6_foretell : IMk yX6_foretell := tb_3 (List.mem_of_getElem? (i := 44) (by first | exact rfl | decide +kernel))
set_option maxRecDepth 20000 in
theorem sl_X6_foretell : SLk yX6_foretell := tb_3 (List.mem_of_getElem? (i := 45) (by first | exact rfl | decide +kernel))
set_option maxRecDepth 20000 in
theorem mw_X6_found : MWk yX6_found cX6_found 4 (Option.some FieldType.int) := ⟨tb_2 (List.mem_of_getElem? (i := 103) (by first | exact rfl | decide +kernel)), tb_1 (List.mem_of_getElem? (i := 1) (by first | exact rfl | decide +kernel))⟩
set_option maxRecDepth 20000 in
theorem im_X6_found : IMk yX6_found := tb_2 (List.mem_of_getElem? (i := 101) (by first | exact rfl | decide +kernel))
set_option maxRecDepth 20000 in
theorem sl_X6_found : SLk yX6_found := tb_2 (List.mem_of_getElem? (i := 102) (by first | exact rfl | decide +kernel))
set_option maxRecDepth 20000 in
theorem mw_X6_gone : MWk yX6_gone cX6_gone 2 (Option.some FieldType.int) := ⟨tb_2 (List.mem_of_getElem? (i := 168) (by first | exact rfl | decide +kernel)), tb_1 (List.mem_of_getElem? (i := 1) (by first | exact rfl | decide +kernel))⟩
set_option maxRecDepth 20000 in
theorem im_X6_gone : IMk yX6_gone := tb_2 (List.mem_of_getElem? (i := 166) (by first | exact rfl | decide +kernel))
set_option maxRecDepth 20000 in
theorem sl_X6_gone : SLk yX6_gone := tb_2 (List.mem_of_getElem? (i := 167) (by first | exact rfl | decide +kernel))
set_option maxRecDepth 20000 in
theorem mw_X6_isName : MWk yX6_isName cX6_isName 1 (Option.some FieldType.boolean) := ⟨tb_2 (List.mem_of_getElem? (i := 22) (by first | exact rfl | decide +kernel)), tb_1 (List.mem_of_getElem? (i := 1) (by first | exact rfl | decide +kernel))⟩
set_option maxRecDepth 20000 in
theorem sm_X6_isName : SMk yX6_isName := tb_2 (List.mem_of_getElem? (i := 21) (by first | exact rfl | decide +kernel))
set_option maxRecDepth 20000 in
theorem mw_X6_isWorld : MWk yX6_isWorld cX6_isWorld 2 (Option.some FieldType.boolean) := ⟨tb_2 (List.mem_of_getElem? (i := 180) (by first | exact rfl | decide +kernel)), tb_1 (List.mem_of_getElem? (i := 1) (by first | exact rfl | decide +kernel))⟩
set_option maxRecDepth 20000 in
theorem im_X6_isWorld : IMk yX6_isWorld := tb_2 (List.mem_of_getElem? (i := 179) (by first | exact rfl | decide +kernel))
set_option maxRecDepth 20000 in
theorem sl_X6_isWorld : SLk yX6_isWorld := tb_0 (List.mem_of_getElem? (i := 7) (by first | exact rfl | decide +kernel))
set_option maxRecDepth 20000 in
theorem mw_X6_many : MWk yX6_many cX6_many 5 (Option.some FieldType.int) := ⟨tb_3 (List.mem_of_getElem? (i := 75) (by first | exact rfl | decide +kernel)), tb_1 (List.mem_of_getElem? (i := 1) (by first | exact rfl | decide +kernel))⟩
set_option maxRecDepth 20000 in
theorem im_X6_many : IMk yX6_many := tb_3 (List.mem_of_getElem? (i := 73) (by first | exact rfl | decide +kernel))
set_option maxRecDepth 20000 in
theorem sl_X6_many : SLk yX6_many := tb_3 (List.mem_of_getElem? (i := 74) (by first | exact rfl | decide +kernel))
set_option maxRecDepth 20000 in
theorem mw_X6_method : MWk yX6_method cX6_method 5 (Option.some FieldType.int) := ⟨tb_2 (List.mem_of_getElem? (i := 31) (by first | exact rfl | decide +kernel)), tb_1 (List.mem_of_getElem? (i := 1) (by first | exact rfl | decide +kernel))⟩
set_option maxRecDepth 20000 in
theorem im_X6_method : IMk yX6_method := tb_2 (List.mem_of_getElem? (i := 29) (by first | exact rfl | decide +kernel))
set_option maxRecDepth 20000 in
theorem sl_X6_method : SLk yX6_method := tb_2 (List.mem_of_getElem? (i := 30) (by first | exact rfl | decide +kernel))
set_option maxRecDepth 20000 in
theorem mw_X6_refusalOfMember : MWk yX6_refusalOfMember cX6_refusalOfMember 3 (Option.some FieldType.int) := ⟨tb_2 (List.mem_of_getElem? (i := 19) (by first | exact rfl | decide +kernel)), tb_1 (List.mem_of_getElem? (i := 1) (by first | exact rfl | decide +kernel))⟩
set_option maxRecDepth 20000 in
theorem im_X6_refusalOfMember : IMk yX6_refusalOfMember := tb_2 (List.mem_of_getElem? (i := 18) (by first | exact rfl | decide +kernel))
set_option maxRecDepth 20000 in
theorem sl_X6_refusalOfMember : SLk yX6_refusalOfMember := tb_0 (List.mem_of_getElem? (i := 1) (by first | exact rfl | decide +kernel))
set_option maxRecDepth 20000 in
theorem mw_X6_refusalOfTouch : MWk yX6_refusalOfTouch cX6_refusalOfTouch 5 (Option.some FieldType.int) := ⟨tb_2 (List.mem_of_getElem? (i := 176) (by first | exact rfl | decide +kernel)), tb_1 (List.mem_of_getElem? (i := 1) (by first | exact rfl | decide +kernel))⟩
set_option maxRecDepth 20000 in
theorem im_X6_refusalOfTouch : IMk yX6_refusalOfTouch := tb_2 (List.mem_of_getElem? (i := 175) (by first | exact rfl | decide +kernel))
set_option maxRecDepth 20000 in
theorem sl_X6_refusalOfTouch : SLk yX6_refusalOfTouch := tb_0 (List.mem_of_getElem? (i := 6) (by first | exact rfl | decide +kernel))
set_option maxRecDepth 20000 in
theorem mw_X6_round : MWk yX6_round cX6_round 2 (Option.some FieldType.int) := ⟨tb_2 (List.mem_of_getElem? (i := 149) (by first | exact rfl | decide +kernel)), tb_1 (List.mem_of_getElem? (i := 1) (by first | exact rfl | decide +kernel))⟩
set_option maxRecDepth 20000 in
theorem im_X6_round : IMk yX6_round := tb_2 (List.mem_of_getElem? (i := 147) (by first | exact rfl | decide +kernel))
set_option maxRecDepth 20000 in
theorem sl_X6_round : SLk yX6_round := tb_2 (List.mem_of_getElem? (i := 148) (by first | exact rfl | decide +kernel))
set_option maxRecDepth 20000 in
theorem mw_X6_spent : MWk yX6_spent cX6_spent 3 (Option.some FieldType.int) := ⟨tb_3 (List.mem_of_getElem? (i := 71) (by first | exact rfl | decide +kernel)), tb_1 (List.mem_of_getElem? (i := 1) (by first | exact rfl | decide +kernel))⟩
set_option maxRecDepth 20000 in
theorem im_X6_spent : IMk yX6_spent := tb_3 (List.mem_of_getElem? (i := 69) (by first | exact rfl | decide +kernel))
set_option maxRecDepth 20000 in
theorem sl_X6_spent : SLk yX6_spent := tb_3 (List.mem_of_getElem? (i := 70) (by first | exact rfl | decide +kernel))
set_option maxRecDepth 20000 in
theorem mw_X6_state : MWk yX6_state cX6_state 3 (Option.some FieldType.int) := ⟨tb_3 (List.mem_of_getElem? (i := 50) (by first | exact rfl | decide +kernel)), tb_1 (List.mem_of_getElem? (i := 1) (by first | exact rfl | decide +kernel))⟩
set_option maxRecDepth 20000 in
theorem im_X6_state : IMk yX6_state := tb_3 (List.mem_of_getElem? (i := 48) (by first | exact rfl | decide +kernel))
set_option maxRecDepth 20000 in
theorem sl_X6_state : SLk yX6_state := tb_3 (List.mem_of_getElem? (i := 49) (by first | exact rfl | decide +kernel))
set_option maxRecDepth 20000 in
theorem mw_X6_tape : MWk yX6_tape cX6_tape 4 (Option.some FieldType.int) := ⟨tb_3 (List.mem_of_getElem? (i := 58) (by first | exact rfl | decide +kernel)), tb_1 (List.mem_of_getElem? (i := 1) (by first | exact rfl | decide +kernel))⟩
set_option maxRecDepth 20000 in
theorem im_X6_tape : IMk yX6_tape := tb_3 (List.mem_of_getElem? (i := 56) (by first | exact rfl | decide +kernel))
set_option maxRecDepth 20000 in
theorem sl_X6_tape : SLk yX6_tape := tb_3 (List.mem_of_getElem? (i := 57) (by first | exact rfl | decide +kernel))
set_option maxRecDepth 20000 in
theorem mw_X6_told : MWk yX6_told cX6_told 3 (Option.some FieldType.int) := ⟨tb_2 (List.mem_of_getElem? (i := 87) (by first | exact rfl | decide +kernel)), tb_1 (List.mem_of_getElem? (i := 1) (by first | exact rfl | decide +kernel))⟩
set_option maxRecDepth 20000 in
theorem im_X6_told : IMk yX6_told := tb_2 (List.mem_of_getElem? (i := 85) (by first | exact rfl | decide +kernel))
set_option maxRecDepth 20000 in
theorem sl_X6_told : SLk yX6_told := tb_2 (List.mem_of_getElem? (i := 86) (by first | exact rfl | decide +kernel))
set_option maxRecDepth 20000 in
theorem mw_X6_touch : MWk yX6_touch cX6_touch 10 (Option.some FieldType.int) := ⟨tb_2 (List.mem_of_getElem? (i := 172) (by first | exact rfl | decide +kernel)), tb_1 (List.mem_of_getElem? (i := 1) (by first | exact rfl | decide +kernel))⟩
set_option maxRecDepth 20000 in
theorem im_X6_touch : IMk yX6_touch := tb_2 (List.mem_of_getElem? (i := 170) (by first | exact rfl | decide +kernel))
set_option maxRecDepth 20000 in
theorem sl_X6_touch : SLk yX6_touch := tb_2 (List.mem_of_getElem? (i := 171) (by first | exact rfl | decide +kernel))
set_option maxRecDepth 20000 in
theorem mw_X6_under : MWk yX6_under cX6_under 4 (Option.some FieldType.int) := ⟨tb_1 (List.mem_of_getElem? (i := 234) (by first | exact rfl | decide +kernel)), tb_1 (List.mem_of_getElem? (i := 1) (by first | exact rfl | decide +kernel))⟩
set_option maxRecDepth 20000 in
theorem im_X6_under : IMk yX6_under := tb_1 (List.mem_of_getElem? (i := 232) (by first | exact rfl | decide +kernel))
set_option maxRecDepth 20000 in
theorem sl_X6_under : SLk yX6_under := tb_1 (List.mem_of_getElem? (i := 233) (by first | exact rfl | decide +kernel))
set_option maxRecDepth 20000 in
theorem mw_X6_usesName : MWk yX6_usesName cX6_usesName 1 (Option.some FieldType.boolean) := ⟨tb_2 (List.mem_of_getElem? (i := 45) (by first | exact rfl | decide +kernel)), tb_1 (List.mem_of_getElem? (i := 1) (by first | exact rfl | decide +kernel))⟩
set_option maxRecDepth 20000 in
theorem sm_X6_usesName : SMk yX6_usesName := tb_2 (List.mem_of_getElem? (i := 44) (by first | exact rfl | decide +kernel))
set_option maxRecDepth 20000 in
theorem mw_X6_usesType : MWk yX6_usesType cX6_usesType 1 (Option.some FieldType.boolean) := ⟨tb_2 (List.mem_of_getElem? (i := 42) (by first | exact rfl | decide +kernel)), tb_1 (List.mem_of_getElem? (i := 1) (by first | exact rfl | decide +kernel))⟩
set_option maxRecDepth 20000 in
theorem sm_X6_usesType : SMk yX6_usesType := tb_2 (List.mem_of_getElem? (i := 41) (by first | exact rfl | decide +kernel))
set_option maxRecDepth 20000 in
theorem mw_X6_value : MWk yX6_value cX6_value 5 (Option.some FieldType.int) := ⟨tb_3 (List.mem_of_getElem? (i := 62) (by first | exact rfl | decide +kernel)), tb_1 (List.mem_of_getElem? (i := 1) (by first | exact rfl | decide +kernel))⟩
set_option maxRecDepth 20000 in
theorem im_X6_value : IMk yX6_value := tb_3 (List.mem_of_getElem? (i := 60) (by first | exact rfl | decide +kernel))
set_option maxRecDepth 20000 in
theorem sl_X6_value : SLk yX6_value := tb_3 (List.mem_of_getElem? (i := 61) (by first | exact rfl | decide +kernel))
set_option maxRecDepth 20000 in
theorem mw_X6_world : MWk yX6_world cX6_world 1 (Option.some FieldType.int) := ⟨tb_2 (List.mem_of_getElem? (i := 159) (by first | exact rfl | decide +kernel)), tb_1 (List.mem_of_getElem? (i := 1) (by first | exact rfl | decide +kernel))⟩
set_option maxRecDepth 20000 in
theorem im_X6_world : IMk yX6_world := tb_2 (List.mem_of_getElem? (i := 157) (by first | exact rfl | decide +kernel))
set_option maxRecDepth 20000 in
theorem sl_X6_world : SLk yX6_world := tb_2 (List.mem_of_getElem? (i := 158) (by first | exact rfl | decide +kernel))
set_option maxRecDepth 20000 in
theorem mw_X0_init : MWk yX0_init cX0_init 5 (Option.none : Option FieldType) := ⟨tb_2 (List.mem_of_getElem? (i := 58) (by first | exact rfl | decide +kernel)), tb_1 (List.mem_of_getElem? (i := 8) (by first | exact rfl | decide +kernel))⟩
set_option maxRecDepth 20000 in
theorem im_X0_init : IMk yX0_init := tb_2 (List.mem_of_getElem? (i := 57) (by first | exact rfl | decide +kernel))
set_option maxRecDepth 20000 in
theorem mw_X1_init : MWk yX1_init cX1_init 1 (Option.none : Option FieldType) := ⟨tb_1 (List.mem_of_getElem? (i := 142) (by first | exact rfl | decide +kernel)), tb_1 (List.mem_of_getElem? (i := 7) (by first | exact rfl | decide +kernel))⟩
set_option maxRecDepth 20000 in
theorem im_X1_init : IMk yX1_init := tb_1 (List.mem_of_getElem? (i := 141) (by first | exact rfl | decide +kernel))
set_option maxRecDepth 20000 in
theorem mw_X1_append : MWk yX1_append cX1_append 2 (Option.some FieldType.int) := ⟨tb_2 (List.mem_of_getElem? (i := 83) (by first | exact rfl | decide +kernel)), tb_1 (List.mem_of_getElem? (i := 7) (by first | exact rfl | decide +kernel))⟩
set_option maxRecDepth 20000 in
theorem im_X1_append : IMk yX1_append := tb_2 (List.mem_of_getElem? (i := 81) (by first | exact rfl | decide +kernel))
set_option maxRecDepth 20000 in
theorem sl_X1_append : SLk yX1_append := tb_2 (List.mem_of_getElem? (i := 82) (by first | exact rfl | decide +kernel))
set_option maxRecDepth 20000 in
theorem mw_X2_init : MWk yX2_init cX2_init 1 (Option.none : Option FieldType) := ⟨tb_1 (List.mem_of_getElem? (i := 24) (by first | exact rfl | decide +kernel)), tb_1 (List.mem_of_getElem? (i := 2) (by first | exact rfl | decide +kernel))⟩
set_option maxRecDepth 20000 in
theorem im_X2_init : IMk yX2_init := tb_1 (List.mem_of_getElem? (i := 23) (by first | exact rfl | decide +kernel))
set_option maxRecDepth 20000 in
theorem mw_X2_addAsked : MWk yX2_addAsked cX2_addAsked 2 (Option.none : Option FieldType) := ⟨tb_2 (List.mem_of_getElem? (i := 127) (by first | exact rfl | decide +kernel)), tb_1 (List.mem_of_getElem? (i := 2) (by first | exact rfl | decide +kernel))⟩
set_option maxRecDepth 20000 in
theorem im_X2_addAsked : IMk yX2_addAsked := tb_2 (List.mem_of_getElem? (i := 126) (by first | exact rfl | decide +kernel))
set_option maxRecDepth 20000 in
theorem sl_X2_addAsked : SLk yX2_addAsked := tb_0 (List.mem_of_getElem? (i := 3) (by first | exact rfl | decide +kernel))
set_option maxRecDepth 20000 in
theorem mw_X2_addFirst : MWk yX2_addFirst cX2_addFirst 10 (Option.some FieldType.long) := ⟨tb_2 (List.mem_of_getElem? (i := 135) (by first | exact rfl | decide +kernel)), tb_1 (List.mem_of_getElem? (i := 2) (by first | exact rfl | decide +kernel))⟩
set_option maxRecDepth 20000 in
theorem im_X2_addFirst : IMk yX2_addFirst := tb_2 (List.mem_of_getElem? (i := 134) (by first | exact rfl | decide +kernel))
set_option maxRecDepth 20000 in
theorem sl_X2_addFirst : SLk yX2_addFirst := tb_0 (List.mem_of_getElem? (i := 4) (by first | exact rfl | decide +kernel))
set_option maxRecDepth 20000 in
theorem mw_X2_append : MWk yX2_append cX2_append 2 (Option.some FieldType.int) := ⟨tb_1 (List.mem_of_getElem? (i := 226) (by first | exact rfl | decide +kernel)), tb_1 (List.mem_of_getElem? (i := 2) (by first | exact rfl | decide +kernel))⟩
set_option maxRecDepth 20000 in
theorem im_X2_append : IMk yX2_append := tb_1 (List.mem_of_getElem? (i := 224) (by first | exact rfl | decide +kernel))
set_option maxRecDepth 20000 in
theorem sl_X2_append : SLk yX2_append := tb_1 (List.mem_of_getElem? (i := 225) (by first | exact rfl | decide +kernel))
set_option maxRecDepth 20000 in
theorem mw_X2_countLeading : MWk yX2_countLeading cX2_countLeading 4 (Option.some FieldType.int) := ⟨tb_2 (List.mem_of_getElem? (i := 91) (by first | exact rfl | decide +kernel)), tb_1 (List.mem_of_getElem? (i := 2) (by first | exact rfl | decide +kernel))⟩
set_option maxRecDepth 20000 in
theorem im_X2_countLeading : IMk yX2_countLeading := tb_2 (List.mem_of_getElem? (i := 89) (by first | exact rfl | decide +kernel))
set_option maxRecDepth 20000 in
theorem sl_X2_countLeading : SLk yX2_countLeading := tb_2 (List.mem_of_getElem? (i := 90) (by first | exact rfl | decide +kernel))
set_option maxRecDepth 20000 in
theorem mw_X2_fieldOwner : MWk yX2_fieldOwner cX2_fieldOwner 3 (Option.some FieldType.int) := ⟨tb_2 (List.mem_of_getElem? (i := 111) (by first | exact rfl | decide +kernel)), tb_1 (List.mem_of_getElem? (i := 2) (by first | exact rfl | decide +kernel))⟩
set_option maxRecDepth 20000 in
theorem im_X2_fieldOwner : IMk yX2_fieldOwner := tb_2 (List.mem_of_getElem? (i := 109) (by first | exact rfl | decide +kernel))
set_option maxRecDepth 20000 in
theorem sl_X2_fieldOwner : SLk yX2_fieldOwner := tb_2 (List.mem_of_getElem? (i := 110) (by first | exact rfl | decide +kernel))
set_option maxRecDepth 20000 in
theorem mw_X2_forgetFields : MWk yX2_forgetFields cX2_forgetFields 1 (Option.none : Option FieldType) := ⟨tb_2 (List.mem_of_getElem? (i := 11) (by first | exact rfl | decide +kernel)), tb_1 (List.mem_of_getElem? (i := 2) (by first | exact rfl | decide +kernel))⟩
set_option maxRecDepth 20000 in
theorem im_X2_forgetFields : IMk yX2_forgetFields := tb_2 (List.mem_of_getElem? (i := 9) (by first | exact rfl | decide +kernel))
set_option maxRecDepth 20000 in
theorem sl_X2_forgetFields : SLk yX2_forgetFields := tb_2 (List.mem_of_getElem? (i := 10) (by first | exact rfl | decide +kernel))
set_option maxRecDepth 20000 in
theorem mw_X2_inRound : MWk yX2_inRound cX2_inRound 4 (Option.some FieldType.int) := ⟨tb_2 (List.mem_of_getElem? (i := 153) (by first | exact rfl | decide +kernel)), tb_1 (List.mem_of_getElem? (i := 2) (by first | exact rfl | decide +kernel))⟩
set_option maxRecDepth 20000 in
theorem im_X2_inRound : IMk yX2_inRound := tb_2 (List.mem_of_getElem? (i := 151) (by first | exact rfl | decide +kernel))
set_option maxRecDepth 20000 in
theorem sl_X2_inRound : SLk yX2_inRound := tb_2 (List.mem_of_getElem? (i := 152) (by first | exact rfl | decide +kernel))
set_option maxRecDepth 20000 in
theorem mw_X2_knows : MWk yX2_knows cX2_knows 2 (Option.some FieldType.boolean) := ⟨tb_1 (List.mem_of_getElem? (i := 126) (by first | exact rfl | decide +kernel)), tb_1 (List.mem_of_getElem? (i := 2) (by first | exact rfl | decide +kernel))⟩
set_option maxRecDepth 20000 in
theorem im_X2_knows : IMk yX2_knows := tb_1 (List.mem_of_getElem? (i := 124) (by first | exact rfl | decide +kernel))
set_option maxRecDepth 20000 in
theorem sl_X2_knows : SLk yX2_knows := tb_1 (List.mem_of_getElem? (i := 125) (by first | exact rfl | decide +kernel))
set_option maxRecDepth 20000 in
theorem mw_X2_leadsTo : MWk yX2_leadsTo cX2_leadsTo 3 (Option.some FieldType.boolean) := ⟨tb_2 (List.mem_of_getElem? (i := 2) (by first | exact rfl | decide +kernel)), tb_1 (List.mem_of_getElem? (i := 2) (by first | exact rfl | decide +kernel))⟩
set_option maxRecDepth 20000 in
theorem im_X2_leadsTo : IMk yX2_leadsTo := tb_2 (List.mem_of_getElem? (i := 0) (by first | exact rfl | decide +kernel))
set_option maxRecDepth 20000 in
theorem sl_X2_leadsTo : SLk yX2_leadsTo := tb_2 (List.mem_of_getElem? (i := 1) (by first | exact rfl | decide +kernel))
set_option maxRecDepth 20000 in
theorem mw_X2_listAsked : MWk yX2_listAsked cX2_listAsked 4 (Option.none : Option FieldType) := ⟨tb_2 (List.mem_of_getElem? (i := 123) (by first | exact rfl | decide +kernel)), tb_1 (List.mem_of_getElem? (i := 2) (by first | exact rfl | decide +kernel))⟩
set_option maxRecDepth 20000 in
theorem im_X2_listAsked : IMk yX2_listAsked := tb_2 (List.mem_of_getElem? (i := 121) (by first | exact rfl | decide +kernel))
set_option maxRecDepth 20000 in
theorem sl_X2_listAsked : SLk yX2_listAsked := tb_2 (List.mem_of_getElem? (i := 122) (by first | exact rfl | decide +kernel))
set_option maxRecDepth 20000 in
theorem mw_X2_methodOwner : MWk yX2_methodOwner cX2_methodOwner 5 (Option.some FieldType.int) := ⟨tb_2 (List.mem_of_getElem? (i := 107) (by first | exact rfl | decide +kernel)), tb_1 (List.mem_of_getElem? (i := 2) (by first | exact rfl | decide +kernel))⟩
set_option maxRecDepth 20000 in
theorem im_X2_methodOwner : IMk yX2_methodOwner := tb_2 (List.mem_of_getElem? (i := 105) (by first | exact rfl | decide +kernel))
set_option maxRecDepth 20000 in
theorem sl_X2_methodOwner : SLk yX2_methodOwner := tb_2 (List.mem_of_getElem? (i := 106) (by first | exact rfl | decide +kernel))
set_option maxRecDepth 20000 in
theorem mw_X2_orderFirsts : MWk yX2_orderFirsts cX2_orderFirsts 5 (Option.none : Option FieldType) := ⟨tb_2 (List.mem_of_getElem? (i := 131) (by first | exact rfl | decide +kernel)), tb_1 (List.mem_of_getElem? (i := 2) (by first | exact rfl | decide +kernel))⟩
set_option maxRecDepth 20000 in
theorem im_X2_orderFirsts : IMk yX2_orderFirsts := tb_2 (List.mem_of_getElem? (i := 129) (by first | exact rfl | decide +kernel))
set_option maxRecDepth 20000 in
theorem sl_X2_orderFirsts : SLk yX2_orderFirsts := tb_2 (List.mem_of_getElem? (i := 130) (by first | exact rfl | decide +kernel))
set_option maxRecDepth 20000 in
theorem mw_X2_putUnder : MWk yX2_putUnder cX2_putUnder 7 (Option.none : Option FieldType) := ⟨tb_2 (List.mem_of_getElem? (i := 6) (by first | exact rfl | decide +kernel)), tb_1 (List.mem_of_getElem? (i := 2) (by first | exact rfl | decide +kernel))⟩
set_option maxRecDepth 20000 in
theorem im_X2_putUnder : IMk yX2_putUnder := tb_2 (List.mem_of_getElem? (i := 4) (by first | exact rfl | decide +kernel))
set_option maxRecDepth 20000 in
theorem sl_X2_putUnder : SLk yX2_putUnder := tb_2 (List.mem_of_getElem? (i := 5) (by first | exact rfl | decide +kernel))
set_option maxRecDepth 20000 in
theorem mw_X2_seekField : MWk yX2_seekField cX2_seekField 8 (Option.some FieldType.int) := ⟨tb_2 (List.mem_of_getElem? (i := 115) (by first | exact rfl | decide +kernel)), tb_1 (List.mem_of_getElem? (i := 2) (by first | exact rfl | decide +kernel))⟩
set_option maxRecDepth 20000 in
theorem im_X2_seekField : IMk yX2_seekField := tb_2 (List.mem_of_getElem? (i := 114) (by first | exact rfl | decide +kernel))
set_option maxRecDepth 20000 in
theorem sl_X2_seekField : SLk yX2_seekField := tb_0 (List.mem_of_getElem? (i := 2) (by first | exact rfl | decide +kernel))
set_option maxRecDepth 20000 in
theorem mw_X2_startedBy : MWk yX2_startedBy cX2_startedBy 4 (Option.some FieldType.int) := ⟨tb_2 (List.mem_of_getElem? (i := 139) (by first | exact rfl | decide +kernel)), tb_1 (List.mem_of_getElem? (i := 2) (by first | exact rfl | decide +kernel))⟩
set_option maxRecDepth 20000 in
theorem im_X2_startedBy : IMk yX2_startedBy := tb_2 (List.mem_of_getElem? (i := 137) (by first | exact rfl | decide +kernel))
set_option maxRecDepth 20000 in
theorem sl_X2_startedBy : SLk yX2_startedBy := tb_2 (List.mem_of_getElem? (i := 138) (by first | exact rfl | decide +kernel))
set_option maxRecDepth 20000 in
theorem mw_X2_startedByField : MWk yX2_startedByField cX2_startedByField 3 (Option.some FieldType.int) := ⟨tb_2 (List.mem_of_getElem? (i := 143) (by first | exact rfl | decide +kernel)), tb_1 (List.mem_of_getElem? (i := 2) (by first | exact rfl | decide +kernel))⟩
set_option maxRecDepth 20000 in
theorem im_X2_startedByField : IMk yX2_startedByField := tb_2 (List.mem_of_getElem? (i := 142) (by first | exact rfl | decide +kernel))
set_option maxRecDepth 20000 in
theorem sl_X2_startedByField : SLk yX2_startedByField := tb_0 (List.mem_of_getElem? (i := 5) (by first | exact rfl | decide +kernel))
set_option maxRecDepth 20000 in
theorem mw_X2_valueOf : MWk yX2_valueOf cX2_valueOf 5 (Option.some FieldType.int) := ⟨tb_3 (List.mem_of_getElem? (i := 35) (by first | exact rfl | decide +kernel)), tb_1 (List.mem_of_getElem? (i := 2) (by first | exact rfl | decide +kernel))⟩
set_option maxRecDepth 20000 in
theorem im_X2_valueOf : IMk yX2_valueOf := tb_3 (List.mem_of_getElem? (i := 33) (by first | exact rfl | decide +kernel))
set_option maxRecDepth 20000 in
theorem sl_X2_valueOf : SLk yX2_valueOf := tb_3 (List.mem_of_getElem? (i := 34) (by first | exact rfl | decide +kernel))
set_option maxRecDepth 20000 in
theorem mw_X3_init : MWk yX3_init cX3_init 3 (Option.none : Option FieldType) := ⟨tb_2 (List.mem_of_getElem? (i := 192) (by first | exact rfl | decide +kernel)), tb_1 (List.mem_of_getElem? (i := 10) (by first | exact rfl | decide +kernel))⟩
set_option maxRecDepth 20000 in
theorem im_X3_init : IMk yX3_init := tb_2 (List.mem_of_getElem? (i := 191) (by first | exact rfl | decide +kernel))
set_option maxRecDepth 20000 in
theorem mw_X3_arise : MWk yX3_arise cX3_arise 3 (Option.some FieldType.int) := ⟨tb_2 (List.mem_of_getElem? (i := 232) (by first | exact rfl | decide +kernel)), tb_1 (List.mem_of_getElem? (i := 10) (by first | exact rfl | decide +kernel))⟩
set_option maxRecDepth 20000 in
theorem im_X3_arise : IMk yX3_arise := tb_2 (List.mem_of_getElem? (i := 231) (by first | exact rfl | decide +kernel))
set_option maxRecDepth 20000 in
theorem sl_X3_arise : SLk yX3_arise := tb_0 (List.mem_of_getElem? (i := 9) (by first | exact rfl | decide +kernel))
set_option maxRecDepth 20000 in
theorem mw_X3_doTouch : MWk yX3_doTouch cX3_doTouch 2 (Option.some FieldType.int) := ⟨tb_2 (List.mem_of_getElem? (i := 224) (by first | exact rfl | decide +kernel)), tb_1 (List.mem_of_getElem? (i := 10) (by first | exact rfl | decide +kernel))⟩
set_option maxRecDepth 20000 in
theorem im_X3_doTouch : IMk yX3_doTouch := tb_2 (List.mem_of_getElem? (i := 222) (by first | exact rfl | decide +kernel))
set_option maxRecDepth 20000 in
theorem sl_X3_doTouch : SLk yX3_doTouch := tb_2 (List.mem_of_getElem? (i := 223) (by first | exact rfl | decide +kernel))
set_option maxRecDepth 20000 in
theorem mw_X3_perform : MWk yX3_perform cX3_perform 6 (Option.some FieldType.int) := ⟨tb_2 (List.mem_of_getElem? (i := 228) (by first | exact rfl | decide +kernel)), tb_1 (List.mem_of_getElem? (i := 10) (by first | exact rfl | decide +kernel))⟩
set_option maxRecDepth 20000 in
theorem im_X3_perform : IMk yX3_perform := tb_2 (List.mem_of_getElem? (i := 227) (by first | exact rfl | decide +kernel))
set_option maxRecDepth 20000 in
theorem sl_X3_perform : SLk yX3_perform := tb_0 (List.mem_of_getElem? (i := 8) (by first | exact rfl | decide +kernel))
set_option maxRecDepth 20000 in
theorem mw_X3_putThrough : MWk yX3_putThrough cX3_putThrough 3 (Option.none : Option FieldType) := ⟨tb_3 (List.mem_of_getElem? (i := 30) (by first | exact rfl | decide +kernel)), tb_1 (List.mem_of_getElem? (i := 10) (by first | exact rfl | decide +kernel))⟩
set_option maxRecDepth 20000 in
theorem im_X3_putThrough : IMk yX3_putThrough := tb_3 (List.mem_of_getElem? (i := 29) (by first | exact rfl | decide +kernel))
set_option maxRecDepth 20000 in
theorem sl_X3_putThrough : SLk yX3_putThrough := tb_0 (List.mem_of_getElem? (i := 15) (by first | exact rfl | decide +kernel))
set_option maxRecDepth 20000 in
theorem mw_X3_runBody : MWk yX3_runBody cX3_runBody 8 (Option.some FieldType.int) := ⟨tb_3 (List.mem_of_getElem? (i := 14) (by first | exact rfl | decide +kernel)), tb_1 (List.mem_of_getElem? (i := 10) (by first | exact rfl | decide +kernel))⟩
set_option maxRecDepth 20000 in
theorem im_X3_runBody : IMk yX3_runBody := tb_3 (List.mem_of_getElem? (i := 13) (by first | exact rfl | decide +kernel))
set_option maxRecDepth 20000 in
theorem sl_X3_runBody : SLk yX3_runBody := tb_0 (List.mem_of_getElem? (i := 13) (by first | exact rfl | decide +kernel))
set_option maxRecDepth 20000 in
theorem mw_X3_runStart : MWk yX3_runStart cX3_runStart 4 (Option.some FieldType.int) := ⟨tb_3 (List.mem_of_getElem? (i := 6) (by first | exact rfl | decide +kernel)), tb_1 (List.mem_of_getElem? (i := 10) (by first | exact rfl | decide +kernel))⟩
set_option maxRecDepth 20000 in
theorem im_X3_runStart : IMk yX3_runStart := tb_3 (List.mem_of_getElem? (i := 5) (by first | exact rfl | decide +kernel))
set_option maxRecDepth 20000 in
theorem sl_X3_runStart : SLk yX3_runStart := tb_0 (List.mem_of_getElem? (i := 12) (by first | exact rfl | decide +kernel))
set_option maxRecDepth 20000 in
theorem mw_X3_startFirsts : MWk yX3_startFirsts cX3_startFirsts 6 (Option.some FieldType.int) := ⟨tb_3 (List.mem_of_getElem? (i := 1) (by first | exact rfl | decide +kernel)), tb_1 (List.mem_of_getElem? (i := 10) (by first | exact rfl | decide +kernel))⟩
set_option maxRecDepth 20000 in
theorem im_X3_startFirsts : IMk yX3_startFirsts := tb_3 (List.mem_of_getElem? (i := 0) (by first | exact rfl | decide +kernel))
set_option maxRecDepth 20000 in
theorem sl_X3_startFirsts : SLk yX3_startFirsts := tb_0 (List.mem_of_getElem? (i := 11) (by first | exact rfl | decide +kernel))
set_option maxRecDepth 20000 in
theorem mw_X3_startType : MWk yX3_startType cX3_startType 6 (Option.some FieldType.int) := ⟨tb_2 (List.mem_of_getElem? (i := 237) (by first | exact rfl | decide +kernel)), tb_1 (List.mem_of_getElem? (i := 10) (by first | exact rfl | decide +kernel))⟩
set_option maxRecDepth 20000 in
theorem im_X3_startType : IMk yX3_startType := tb_2 (List.mem_of_getElem? (i := 236) (by first | exact rfl | decide +kernel))
set_option maxRecDepth 20000 in
theorem sl_X3_startType : SLk yX3_startType := tb_0 (List.mem_of_getElem? (i := 10) (by first | exact rfl | decide +kernel))
set_option maxRecDepth 20000 in
theorem mw_X3_takeFailure : MWk yX3_takeFailure cX3_takeFailure 7 (Option.some FieldType.int) := ⟨tb_3 (List.mem_of_getElem? (i := 21) (by first | exact rfl | decide +kernel)), tb_1 (List.mem_of_getElem? (i := 10) (by first | exact rfl | decide +kernel))⟩
set_option maxRecDepth 20000 in
theorem im_X3_takeFailure : IMk yX3_takeFailure := tb_3 (List.mem_of_getElem? (i := 20) (by first | exact rfl | decide +kernel))
set_option maxRecDepth 20000 in
theorem sl_X3_takeFailure : SLk yX3_takeFailure := tb_0 (List.mem_of_getElem? (i := 14) (by first | exact rfl | decide +kernel))
set_option maxRecDepth 20000 in
theorem mw_X4_init : MWk yX4_init cX4_init 4 (Option.none : Option FieldType) := ⟨tb_1 (List.mem_of_getElem? (i := 135) (by first | exact rfl | decide +kernel)), tb_1 (List.mem_of_getElem? (i := 6) (by first | exact rfl | decide +kernel))⟩
set_option maxRecDepth 20000 in
theorem im_X4_init : IMk yX4_init := tb_1 (List.mem_of_getElem? (i := 134) (by first | exact rfl | decide +kernel))
set_option maxRecDepth 20000 in
theorem mw_X4_addField : MWk yX4_addField cX4_addField 4 (Option.none : Option FieldType) := ⟨tb_2 (List.mem_of_getElem? (i := 26) (by first | exact rfl | decide +kernel)), tb_1 (List.mem_of_getElem? (i := 6) (by first | exact rfl | decide +kernel))⟩
set_option maxRecDepth 20000 in
theorem im_X4_addField : IMk yX4_addField := tb_2 (List.mem_of_getElem? (i := 24) (by first | exact rfl | decide +kernel))
set_option maxRecDepth 20000 in
theorem sl_X4_addField : SLk yX4_addField := tb_2 (List.mem_of_getElem? (i := 25) (by first | exact rfl | decide +kernel))
set_option maxRecDepth 20000 in
theorem mw_X4_addMethod : MWk yX4_addMethod cX4_addMethod 2 (Option.none : Option FieldType) := ⟨tb_2 (List.mem_of_getElem? (i := 35) (by first | exact rfl | decide +kernel)), tb_1 (List.mem_of_getElem? (i := 6) (by first | exact rfl | decide +kernel))⟩
set_option maxRecDepth 20000 in
theorem im_X4_addMethod : IMk yX4_addMethod := tb_2 (List.mem_of_getElem? (i := 33) (by first | exact rfl | decide +kernel))
set_option maxRecDepth 20000 in
theorem sl_X4_addMethod : SLk yX4_addMethod := tb_2 (List.mem_of_getElem? (i := 34) (by first | exact rfl | decide +kernel))
set_option maxRecDepth 20000 in
theorem mw_X4_bodyOf : MWk yX4_bodyOf cX4_bodyOf 2 (Option.some (FieldType.object "StartBench$Body")) := ⟨tb_2 (List.mem_of_getElem? (i := 52) (by first | exact rfl | decide +kernel)), tb_1 (List.mem_of_getElem? (i := 6) (by first | exact rfl | decide +kernel))⟩
set_option maxRecDepth 20000 in
theorem im_X4_bodyOf : IMk yX4_bodyOf := tb_2 (List.mem_of_getElem? (i := 50) (by first | exact rfl | decide +kernel))
set_option maxRecDepth 20000 in
theorem sl_X4_bodyOf : SLk yX4_bodyOf := tb_2 (List.mem_of_getElem? (i := 51) (by first | exact rfl | decide +kernel))
set_option maxRecDepth 20000 in
theorem mw_X4_isUnder : MWk yX4_isUnder cX4_isUnder 3 (Option.some FieldType.boolean) := ⟨tb_1 (List.mem_of_getElem? (i := 238) (by first | exact rfl | decide +kernel)), tb_1 (List.mem_of_getElem? (i := 6) (by first | exact rfl | decide +kernel))⟩
set_option maxRecDepth 20000 in
theorem im_X4_isUnder : IMk yX4_isUnder := tb_1 (List.mem_of_getElem? (i := 236) (by first | exact rfl | decide +kernel))
set_option maxRecDepth 20000 in
theorem sl_X4_isUnder : SLk yX4_isUnder := tb_1 (List.mem_of_getElem? (i := 237) (by first | exact rfl | decide +kernel))
set_option maxRecDepth 20000 in
theorem mw_X4_tell : MWk yX4_tell cX4_tell 2 (Option.some FieldType.int) := ⟨tb_2 (List.mem_of_getElem? (i := 95) (by first | exact rfl | decide +kernel)), tb_1 (List.mem_of_getElem? (i := 6) (by first | exact rfl | decide +kernel))⟩
set_option maxRecDepth 20000 in
theorem im_X4_tell : IMk yX4_tell := tb_2 (List.mem_of_getElem? (i := 93) (by first | exact rfl | decide +kernel))
set_option maxRecDepth 20000 in
theorem sl_X4_tell : SLk yX4_tell := tb_2 (List.mem_of_getElem? (i := 94) (by first | exact rfl | decide +kernel))
set_option maxRecDepth 20000 in
theorem mw_X5_init : MWk yX5_init cX5_init 1 (Option.none : Option FieldType) := ⟨tb_1 (List.mem_of_getElem? (i := 65) (by first | exact rfl | decide +kernel)), tb_1 (List.mem_of_getElem? (i := 4) (by first | exact rfl | decide +kernel))⟩
set_option maxRecDepth 20000 in
theorem im_X5_init : IMk yX5_init := tb_1 (List.mem_of_getElem? (i := 64) (by first | exact rfl | decide +kernel))
set_option maxRecDepth 20000 in
theorem mw_X5_clear : MWk yX5_clear cX5_clear 1 (Option.none : Option FieldType) := ⟨tb_2 (List.mem_of_getElem? (i := 163) (by first | exact rfl | decide +kernel)), tb_1 (List.mem_of_getElem? (i := 4) (by first | exact rfl | decide +kernel))⟩
set_option maxRecDepth 20000 in
theorem im_X5_clear : IMk yX5_clear := tb_2 (List.mem_of_getElem? (i := 161) (by first | exact rfl | decide +kernel))
set_option maxRecDepth 20000 in
theorem sl_X5_clear : SLk yX5_clear := tb_2 (List.mem_of_getElem? (i := 162) (by first | exact rfl | decide +kernel))
set_option maxRecDepth 20000 in
theorem mw_X5_keepAccount : MWk yX5_keepAccount cX5_keepAccount 4 (Option.none : Option FieldType) := ⟨tb_3 (List.mem_of_getElem? (i := 39) (by first | exact rfl | decide +kernel)), tb_1 (List.mem_of_getElem? (i := 4) (by first | exact rfl | decide +kernel))⟩
set_option maxRecDepth 20000 in
theorem im_X5_keepAccount : IMk yX5_keepAccount := tb_3 (List.mem_of_getElem? (i := 37) (by first | exact rfl | decide +kernel))
set_option maxRecDepth 20000 in
theorem sl_X5_keepAccount : SLk yX5_keepAccount := tb_3 (List.mem_of_getElem? (i := 38) (by first | exact rfl | decide +kernel))
set_option maxRecDepth 20000 in
theorem mw_X5_putInRow : MWk yX5_putInRow cX5_putInRow 2 (Option.none : Option FieldType) := ⟨tb_3 (List.mem_of_getElem? (i := 10) (by first | exact rfl | decide +kernel)), tb_1 (List.mem_of_getElem? (i := 4) (by first | exact rfl | decide +kernel))⟩
set_option maxRecDepth 20000 in
theorem im_X5_putInRow : IMk yX5_putInRow := tb_3 (List.mem_of_getElem? (i := 8) (by first | exact rfl | decide +kernel))
set_option maxRecDepth 20000 in
theorem sl_X5_putInRow : SLk yX5_putInRow := tb_3 (List.mem_of_getElem? (i := 9) (by first | exact rfl | decide +kernel))
set_option maxRecDepth 20000 in
theorem mw_X5_putOnTape : MWk yX5_putOnTape cX5_putOnTape 2 (Option.none : Option FieldType) := ⟨tb_3 (List.mem_of_getElem? (i := 25) (by first | exact rfl | decide +kernel)), tb_1 (List.mem_of_getElem? (i := 4) (by first | exact rfl | decide +kernel))⟩
set_option maxRecDepth 20000 in
theorem im_X5_putOnTape : IMk yX5_putOnTape := tb_3 (List.mem_of_getElem? (i := 23) (by first | exact rfl | decide +kernel))
set_option maxRecDepth 20000 in
theorem sl_X5_putOnTape : SLk yX5_putOnTape := tb_3 (List.mem_of_getElem? (i := 24) (by first | exact rfl | decide +kernel))
set_option maxRecDepth 20000 in
theorem mw_X5_sameIn : MWk yX5_sameIn cX5_sameIn 4 (Option.some FieldType.boolean) := ⟨tb_3 (List.mem_of_getElem? (i := 83) (by first | exact rfl | decide +kernel)), tb_1 (List.mem_of_getElem? (i := 4) (by first | exact rfl | decide +kernel))⟩
set_option maxRecDepth 20000 in
theorem im_X5_sameIn : IMk yX5_sameIn := tb_3 (List.mem_of_getElem? (i := 81) (by first | exact rfl | decide +kernel))
set_option maxRecDepth 20000 in
theorem sl_X5_sameIn : SLk yX5_sameIn := tb_3 (List.mem_of_getElem? (i := 82) (by first | exact rfl | decide +kernel))
set_option maxRecDepth 20000 in
theorem mw_X5_takeStateOf : MWk yX5_takeStateOf cX5_takeStateOf 2 (Option.none : Option FieldType) := ⟨tb_2 (List.mem_of_getElem? (i := 184) (by first | exact rfl | decide +kernel)), tb_1 (List.mem_of_getElem? (i := 4) (by first | exact rfl | decide +kernel))⟩
set_option maxRecDepth 20000 in
theorem im_X5_takeStateOf : IMk yX5_takeStateOf := tb_2 (List.mem_of_getElem? (i := 182) (by first | exact rfl | decide +kernel))
set_option maxRecDepth 20000 in
theorem sl_X5_takeStateOf : SLk yX5_takeStateOf := tb_2 (List.mem_of_getElem? (i := 183) (by first | exact rfl | decide +kernel))
set_option maxRecDepth 20000 in
theorem mw_X7_init : MWk yX7_init cX7_init 2 (Option.none : Option FieldType) := ⟨tb_3 (List.mem_of_getElem? (i := 88) (by first | exact rfl | decide +kernel)), tb_1 (List.mem_of_getElem? (i := 5) (by first | exact rfl | decide +kernel))⟩
set_option maxRecDepth 20000 in
theorem im_X7_init : IMk yX7_init := tb_3 (List.mem_of_getElem? (i := 87) (by first | exact rfl | decide +kernel))
set_option maxRecDepth 20000 in
theorem mw_X7_act : MWk yX7_act cX7_act 11 (Option.some FieldType.int) := ⟨tb_4 (List.mem_of_getElem? (i := 72) (by first | exact rfl | decide +kernel)), tb_1 (List.mem_of_getElem? (i := 5) (by first | exact rfl | decide +kernel))⟩
set_option maxRecDepth 20000 in
theorem im_X7_act : IMk yX7_act := tb_4 (List.mem_of_getElem? (i := 70) (by first | exact rfl | decide +kernel))
set_option maxRecDepth 20000 in
theorem sl_X7_act : SLk yX7_act := tb_4 (List.mem_of_getElem? (i := 71) (by first | exact rfl | decide +kernel))
set_option maxRecDepth 20000 in
theorem mw_X7_addAsked : MWk yX7_addAsked cX7_addAsked 5 (Option.none : Option FieldType) := ⟨tb_4 (List.mem_of_getElem? (i := 108) (by first | exact rfl | decide +kernel)), tb_1 (List.mem_of_getElem? (i := 5) (by first | exact rfl | decide +kernel))⟩
set_option maxRecDepth 20000 in
theorem im_X7_addAsked : IMk yX7_addAsked := tb_4 (List.mem_of_getElem? (i := 107) (by first | exact rfl | decide +kernel))
set_option maxRecDepth 20000 in
theorem sl_X7_addAsked : SLk yX7_addAsked := tb_0 (List.mem_of_getElem? (i := 25) (by first | exact rfl | decide +kernel))
set_option maxRecDepth 20000 in
theorem mw_X7_asks : MWk yX7_asks cX7_asks 3 (Option.some FieldType.int) := ⟨tb_4 (List.mem_of_getElem? (i := 96) (by first | exact rfl | decide +kernel)), tb_1 (List.mem_of_getElem? (i := 5) (by first | exact rfl | decide +kernel))⟩
set_option maxRecDepth 20000 in
theorem im_X7_asks : IMk yX7_asks := tb_4 (List.mem_of_getElem? (i := 94) (by first | exact rfl | decide +kernel))
set_option maxRecDepth 20000 in
theorem sl_X7_asks : SLk yX7_asks := tb_4 (List.mem_of_getElem? (i := 95) (by first | exact rfl | decide +kernel))
set_option maxRecDepth 20000 in
theorem mw_X7_began : MWk yX7_began cX7_began 3 (Option.some FieldType.int) := ⟨tb_4 (List.mem_of_getElem? (i := 224) (by first | exact rfl | decide +kernel)), tb_1 (List.mem_of_getElem? (i := 5) (by first | exact rfl | decide +kernel))⟩
set_option maxRecDepth 20000 in
theorem im_X7_began : IMk yX7_began := tb_4 (List.mem_of_getElem? (i := 222) (by first | exact rfl | decide +kernel))
set_option maxRecDepth 20000 in
theorem sl_X7_began : SLk yX7_began := tb_4 (List.mem_of_getElem? (i := 223) (by first | exact rfl | decide +kernel))
set_option maxRecDepth 20000 in
theorem mw_X7_below : MWk yX7_below cX7_below 3 (Option.some FieldType.int) := ⟨tb_4 (List.mem_of_getElem? (i := 80) (by first | exact rfl | decide +kernel)), tb_1 (List.mem_of_getElem? (i := 5) (by first | exact rfl | decide +kernel))⟩
set_option maxRecDepth 20000 in
theorem im_X7_below : IMk yX7_below := tb_4 (List.mem_of_getElem? (i := 78) (by first | exact rfl | decide +kernel))
set_option maxRecDepth 20000 in
theorem sl_X7_below : SLk yX7_below := tb_4 (List.mem_of_getElem? (i := 79) (by first | exact rfl | decide +kernel))
set_option maxRecDepth 20000 in
theorem mw_X7_cameTo : MWk yX7_cameTo cX7_cameTo 1 (Option.some FieldType.int) := ⟨tb_4 (List.mem_of_getElem? (i := 212) (by first | exact rfl | decide +kernel)), tb_1 (List.mem_of_getElem? (i := 5) (by first | exact rfl | decide +kernel))⟩
set_option maxRecDepth 20000 in
theorem im_X7_cameTo : IMk yX7_cameTo := tb_4 (List.mem_of_getElem? (i := 211) (by first | exact rfl | decide +kernel))
set_option maxRecDepth 20000 in
theorem sl_X7_cameTo : SLk yX7_cameTo := tb_0 (List.mem_of_getElem? (i := 47) (by first | exact rfl | decide +kernel))
set_option maxRecDepth 20000 in
theorem mw_X7_cls : MWk yX7_cls cX7_cls 3 (Option.some FieldType.int) := ⟨tb_4 (List.mem_of_getElem? (i := 29) (by first | exact rfl | decide +kernel)), tb_1 (List.mem_of_getElem? (i := 5) (by first | exact rfl | decide +kernel))⟩
set_option maxRecDepth 20000 in
theorem im_X7_cls : IMk yX7_cls := tb_4 (List.mem_of_getElem? (i := 27) (by first | exact rfl | decide +kernel))
set_option maxRecDepth 20000 in
theorem sl_X7_cls : SLk yX7_cls := tb_4 (List.mem_of_getElem? (i := 28) (by first | exact rfl | decide +kernel))
set_option maxRecDepth 20000 in
theorem mw_X7_copy : MWk yX7_copy cX7_copy 4 (Option.none : Option FieldType) := ⟨tb_4 (List.mem_of_getElem? (i := 148) (by first | exact rfl | decide +kernel)), tb_1 (List.mem_of_getElem? (i := 5) (by first | exact rfl | decide +kernel))⟩
set_option maxRecDepth 20000 in
theorem im_X7_copy : IMk yX7_copy := tb_4 (List.mem_of_getElem? (i := 147) (by first | exact rfl | decide +kernel))
set_option maxRecDepth 20000 in
theorem sl_X7_copy : SLk yX7_copy := tb_0 (List.mem_of_getElem? (i := 31) (by first | exact rfl | decide +kernel))
set_option maxRecDepth 20000 in
theorem mw_X7_did : MWk yX7_did cX7_did 2 (Option.none : Option FieldType) := ⟨tb_4 (List.mem_of_getElem? (i := 168) (by first | exact rfl | decide +kernel)), tb_1 (List.mem_of_getElem? (i := 5) (by first | exact rfl | decide +kernel))⟩
set_option maxRecDepth 20000 in
theorem im_X7_did : IMk yX7_did := tb_4 (List.mem_of_getElem? (i := 167) (by first | exact rfl | decide +kernel))
set_option maxRecDepth 20000 in
theorem sl_X7_did : SLk yX7_did := tb_0 (List.mem_of_getElem? (i := 36) (by first | exact rfl | decide +kernel))
set_option maxRecDepth 20000 in
theorem mw_X7_differs : MWk yX7_differs cX7_differs 6 (Option.some FieldType.int) := ⟨tb_5 (List.mem_of_getElem? (i := 8) (by first | exact rfl | decide +kernel)), tb_1 (List.mem_of_getElem? (i := 5) (by first | exact rfl | decide +kernel))⟩
set_option maxRecDepth 20000 in
theorem im_X7_differs : IMk yX7_differs := tb_5 (List.mem_of_getElem? (i := 6) (by first | exact rfl | decide +kernel))
set_option maxRecDepth 20000 in
theorem sl_X7_differs : SLk yX7_differs := tb_5 (List.mem_of_getElem? (i := 7) (by first | exact rfl | decide +kernel))
set_option maxRecDepth 20000 in
theorem mw_X7_face : MWk yX7_face cX7_face 2 (Option.some FieldType.int) := ⟨tb_4 (List.mem_of_getElem? (i := 44) (by first | exact rfl | decide +kernel)), tb_1 (List.mem_of_getElem? (i := 5) (by first | exact rfl | decide +kernel))⟩
set_option maxRecDepth 20000 in
theorem im_X7_face : IMk yX7_face := tb_4 (List.mem_of_getElem? (i := 42) (by first | exact rfl | decide +kernel))
set_option maxRecDepth 20000 in
theorem sl_X7_face : SLk yX7_face := tb_4 (List.mem_of_getElem? (i := 43) (by first | exact rfl | decide +kernel))
set_option maxRecDepth 20000 in
theorem mw_X7_fail : MWk yX7_fail cX7_fail 3 (Option.none : Option FieldType) := ⟨tb_4 (List.mem_of_getElem? (i := 160) (by first | exact rfl | decide +kernel)), tb_1 (List.mem_of_getElem? (i := 5) (by first | exact rfl | decide +kernel))⟩
set_option maxRecDepth 20000 in
theorem im_X7_fail : IMk yX7_fail := tb_4 (List.mem_of_getElem? (i := 159) (by first | exact rfl | decide +kernel))
set_option maxRecDepth 20000 in
theorem sl_X7_fail : SLk yX7_fail := tb_0 (List.mem_of_getElem? (i := 34) (by first | exact rfl | decide +kernel))
set_option maxRecDepth 20000 in
theorem mw_X7_failed : MWk yX7_failed cX7_failed 3 (Option.some FieldType.int) := ⟨tb_4 (List.mem_of_getElem? (i := 236) (by first | exact rfl | decide +kernel)), tb_1 (List.mem_of_getElem? (i := 5) (by first | exact rfl | decide +kernel))⟩
set_option maxRecDepth 20000 in
theorem im_X7_failed : IMk yX7_failed := tb_4 (List.mem_of_getElem? (i := 234) (by first | exact rfl | decide +kernel))
set_option maxRecDepth 20000 in
theorem sl_X7_failed : SLk yX7_failed := tb_4 (List.mem_of_getElem? (i := 235) (by first | exact rfl | decide +kernel))
set_option maxRecDepth 20000 in
theorem mw_X7_field : MWk yX7_field cX7_field 6 (Option.some FieldType.int) := ⟨tb_4 (List.mem_of_getElem? (i := 56) (by first | exact rfl | decide +kernel)), tb_1 (List.mem_of_getElem? (i := 5) (by first | exact rfl | decide +kernel))⟩
set_option maxRecDepth 20000 in
theorem im_X7_field : IMk yX7_field := tb_4 (List.mem_of_getElem? (i := 54) (by first | exact rfl | decide +kernel))
set_option maxRecDepth 20000 in
theorem sl_X7_field : SLk yX7_field := tb_4 (List.mem_of_getElem? (i := 55) (by first | exact rfl | decide +kernel))
set_option maxRecDepth 20000 in
theorem mw_X7_findField : MWk yX7_findField cX7_findField 7 (Option.some FieldType.int) := ⟨tb_4 (List.mem_of_getElem? (i := 92) (by first | exact rfl | decide +kernel)), tb_1 (List.mem_of_getElem? (i := 5) (by first | exact rfl | decide +kernel))⟩
set_option maxRecDepth 20000 in
theorem im_X7_findField : IMk yX7_findField := tb_4 (List.mem_of_getElem? (i := 91) (by first | exact rfl | decide +kernel))
set_option maxRecDepth 20000 in
theorem sl_X7_findField : SLk yX7_findField := tb_0 (List.mem_of_getElem? (i := 22) (by first | exact rfl | decide +kernel))
set_option maxRecDepth 20000 in
theorem mw_X7_findMethod : MWk yX7_findMethod cX7_findMethod 5 (Option.some FieldType.int) := ⟨tb_4 (List.mem_of_getElem? (i := 88) (by first | exact rfl | decide +kernel)), tb_1 (List.mem_of_getElem? (i := 5) (by first | exact rfl | decide +kernel))⟩
set_option maxRecDepth 20000 in
theorem im_X7_findMethod : IMk yX7_findMethod := tb_4 (List.mem_of_getElem? (i := 87) (by first | exact rfl | decide +kernel))
set_option maxRecDepth 20000 in
theorem sl_X7_findMethod : SLk yX7_findMethod := tb_0 (List.mem_of_getElem? (i := 21) (by first | exact rfl | decide +kernel))
set_option maxRecDepth 20000 in
theorem mw_X7_foretell : MWk yX7_foretell cX7_foretell 7 (Option.some FieldType.int) := ⟨tb_4 (List.mem_of_getElem? (i := 216) (by first | exact rfl | decide +kernel)), tb_1 (List.mem_of_getElem? (i := 5) (by first | exact rfl | decide +kernel))⟩
set_option maxRecDepth 20000 in
theorem im_X7_foretell : IMk yX7_foretell := tb_4 (List.mem_of_getElem? (i := 214) (by first | exact rfl | decide +kernel))
set_option maxRecDepth 20000 in
theorem sl_X7_foretell : SLk yX7_foretell := tb_4 (List.mem_of_getElem? (i := 215) (by first | exact rfl | decide +kernel))
set_option maxRecDepth 20000 in
theorem mw_X7_found : MWk yX7_found cX7_found 5 (Option.some FieldType.int) := ⟨tb_4 (List.mem_of_getElem? (i := 84) (by first | exact rfl | decide +kernel)), tb_1 (List.mem_of_getElem? (i := 5) (by first | exact rfl | decide +kernel))⟩
set_option maxRecDepth 20000 in
theorem im_X7_found : IMk yX7_found := tb_4 (List.mem_of_getElem? (i := 82) (by first | exact rfl | decide +kernel))
set_option maxRecDepth 20000 in
theorem sl_X7_found : SLk yX7_found := tb_4 (List.mem_of_getElem? (i := 83) (by first | exact rfl | decide +kernel))
set_option maxRecDepth 20000 in
theorem mw_X7_go : MWk yX7_go cX7_go 6 (Option.none : Option FieldType) := ⟨tb_4 (List.mem_of_getElem? (i := 152) (by first | exact rfl | decide +kernel)), tb_1 (List.mem_of_getElem? (i := 5) (by first | exact rfl | decide +kernel))⟩
set_option maxRecDepth 20000 in
theorem im_X7_go : IMk yX7_go := tb_4 (List.mem_of_getElem? (i := 151) (by first | exact rfl | decide +kernel))
set_option maxRecDepth 20000 in
theorem sl_X7_go : SLk yX7_go := tb_0 (List.mem_of_getElem? (i := 32) (by first | exact rfl | decide +kernel))
set_option maxRecDepth 20000 in
theorem mw_X7_goBehind : MWk yX7_goBehind cX7_goBehind 6 (Option.none : Option FieldType) := ⟨tb_4 (List.mem_of_getElem? (i := 188) (by first | exact rfl | decide +kernel)), tb_1 (List.mem_of_getElem? (i := 5) (by first | exact rfl | decide +kernel))⟩
set_option maxRecDepth 20000 in
theorem im_X7_goBehind : IMk yX7_goBehind := tb_4 (List.mem_of_getElem? (i := 187) (by first | exact rfl | decide +kernel))
set_option maxRecDepth 20000 in
theorem sl_X7_goBehind : SLk yX7_goBehind := tb_0 (List.mem_of_getElem? (i := 41) (by first | exact rfl | decide +kernel))
set_option maxRecDepth 20000 in
theorem mw_X7_goDown : MWk yX7_goDown cX7_goDown 4 (Option.none : Option FieldType) := ⟨tb_4 (List.mem_of_getElem? (i := 156) (by first | exact rfl | decide +kernel)), tb_1 (List.mem_of_getElem? (i := 5) (by first | exact rfl | decide +kernel))⟩
set_option maxRecDepth 20000 in
theorem im_X7_goDown : IMk yX7_goDown := tb_4 (List.mem_of_getElem? (i := 155) (by first | exact rfl | decide +kernel))
set_option maxRecDepth 20000 in
theorem sl_X7_goDown : SLk yX7_goDown := tb_0 (List.mem_of_getElem? (i := 33) (by first | exact rfl | decide +kernel))
set_option maxRecDepth 20000 in
theorem mw_X7_goOnBody : MWk yX7_goOnBody cX7_goOnBody 4 (Option.none : Option FieldType) := ⟨tb_4 (List.mem_of_getElem? (i := 184) (by first | exact rfl | decide +kernel)), tb_1 (List.mem_of_getElem? (i := 5) (by first | exact rfl | decide +kernel))⟩
set_option maxRecDepth 20000 in
theorem im_X7_goOnBody : IMk yX7_goOnBody := tb_4 (List.mem_of_getElem? (i := 183) (by first | exact rfl | decide +kernel))
set_option maxRecDepth 20000 in
theorem sl_X7_goOnBody : SLk yX7_goOnBody := tb_0 (List.mem_of_getElem? (i := 40) (by first | exact rfl | decide +kernel))
set_option maxRecDepth 20000 in
theorem mw_X7_goOnStart : MWk yX7_goOnStart cX7_goOnStart 4 (Option.none : Option FieldType) := ⟨tb_4 (List.mem_of_getElem? (i := 172) (by first | exact rfl | decide +kernel)), tb_1 (List.mem_of_getElem? (i := 5) (by first | exact rfl | decide +kernel))⟩
set_option maxRecDepth 20000 in
theorem im_X7_goOnStart : IMk yX7_goOnStart := tb_4 (List.mem_of_getElem? (i := 171) (by first | exact rfl | decide +kernel))
set_option maxRecDepth 20000 in
theorem sl_X7_goOnStart : SLk yX7_goOnStart := tb_0 (List.mem_of_getElem? (i := 37) (by first | exact rfl | decide +kernel))
set_option maxRecDepth 20000 in
theorem mw_X7_gone : MWk yX7_gone cX7_gone 2 (Option.some FieldType.int) := ⟨tb_4 (List.mem_of_getElem? (i := 132) (by first | exact rfl | decide +kernel)), tb_1 (List.mem_of_getElem? (i := 5) (by first | exact rfl | decide +kernel))⟩
set_option maxRecDepth 20000 in
theorem im_X7_gone : IMk yX7_gone := tb_4 (List.mem_of_getElem? (i := 130) (by first | exact rfl | decide +kernel))
set_option maxRecDepth 20000 in
theorem sl_X7_gone : SLk yX7_gone := tb_4 (List.mem_of_getElem? (i := 131) (by first | exact rfl | decide +kernel))
set_option maxRecDepth 20000 in
theorem mw_X7_in : MWk yX7_in cX7_in 3 (Option.some FieldType.boolean) := ⟨tb_4 (List.mem_of_getElem? (i := 36) (by first | exact rfl | decide +kernel)), tb_1 (List.mem_of_getElem? (i := 5) (by first | exact rfl | decide +kernel))⟩
set_option maxRecDepth 20000 in
theorem sm_X7_in : SMk yX7_in := tb_4 (List.mem_of_getElem? (i := 35) (by first | exact rfl | decide +kernel))
set_option maxRecDepth 20000 in
theorem mw_X7_isRound : MWk yX7_isRound cX7_isRound 5 (Option.some FieldType.boolean) := ⟨tb_4 (List.mem_of_getElem? (i := 124) (by first | exact rfl | decide +kernel)), tb_1 (List.mem_of_getElem? (i := 5) (by first | exact rfl | decide +kernel))⟩
set_option maxRecDepth 20000 in
theorem im_X7_isRound : IMk yX7_isRound := tb_4 (List.mem_of_getElem? (i := 123) (by first | exact rfl | decide +kernel))
set_option maxRecDepth 20000 in
theorem sl_X7_isRound : SLk yX7_isRound := tb_0 (List.mem_of_getElem? (i := 28) (by first | exact rfl | decide +kernel))
set_option maxRecDepth 20000 in
theorem mw_X7_isRuled : MWk yX7_isRuled cX7_isRuled 5 (Option.some FieldType.boolean) := ⟨tb_4 (List.mem_of_getElem? (i := 116) (by first | exact rfl | decide +kernel)), tb_1 (List.mem_of_getElem? (i := 5) (by first | exact rfl | decide +kernel))⟩
set_option maxRecDepth 20000 in
theorem im_X7_isRuled : IMk yX7_isRuled := tb_4 (List.mem_of_getElem? (i := 115) (by first | exact rfl | decide +kernel))
set_option maxRecDepth 20000 in
theorem sl_X7_isRuled : SLk yX7_isRuled := tb_0 (List.mem_of_getElem? (i := 27) (by first | exact rfl | decide +kernel))
set_option maxRecDepth 20000 in
theorem mw_X7_isType : MWk yX7_isType cX7_isType 2 (Option.some FieldType.boolean) := ⟨tb_4 (List.mem_of_getElem? (i := 33) (by first | exact rfl | decide +kernel)), tb_1 (List.mem_of_getElem? (i := 5) (by first | exact rfl | decide +kernel))⟩
set_option maxRecDepth 20000 in
theorem im_X7_isType : IMk yX7_isType := tb_4 (List.mem_of_getElem? (i := 32) (by first | exact rfl | decide +kernel))
set_option maxRecDepth 20000 in
theorem sl_X7_isType : SLk yX7_isType := tb_0 (List.mem_of_getElem? (i := 16) (by first | exact rfl | decide +kernel))
set_option maxRecDepth 20000 in
theorem mw_X7_isWorld : MWk yX7_isWorld cX7_isWorld 2 (Option.some FieldType.boolean) := ⟨tb_4 (List.mem_of_getElem? (i := 144) (by first | exact rfl | decide +kernel)), tb_1 (List.mem_of_getElem? (i := 5) (by first | exact rfl | decide +kernel))⟩
set_option maxRecDepth 20000 in
theorem im_X7_isWorld : IMk yX7_isWorld := tb_4 (List.mem_of_getElem? (i := 143) (by first | exact rfl | decide +kernel))
set_option maxRecDepth 20000 in
theorem sl_X7_isWorld : SLk yX7_isWorld := tb_0 (List.mem_of_getElem? (i := 30) (by first | exact rfl | decide +kernel))
set_option maxRecDepth 20000 in
theorem mw_X7_kindAt : MWk yX7_kindAt cX7_kindAt 2 (Option.some FieldType.int) := ⟨tb_4 (List.mem_of_getElem? (i := 204) (by first | exact rfl | decide +kernel)), tb_1 (List.mem_of_getElem? (i := 5) (by first | exact rfl | decide +kernel))⟩
set_option maxRecDepth 20000 in
theorem im_X7_kindAt : IMk yX7_kindAt := tb_4 (List.mem_of_getElem? (i := 203) (by first | exact rfl | decide +kernel))
set_option maxRecDepth 20000 in
theorem sl_X7_kindAt : SLk yX7_kindAt := tb_0 (List.mem_of_getElem? (i := 45) (by first | exact rfl | decide +kernel))
set_option maxRecDepth 20000 in
theorem mw_X7_leads : MWk yX7_leads cX7_leads 6 (Option.some FieldType.boolean) := ⟨tb_4 (List.mem_of_getElem? (i := 52) (by first | exact rfl | decide +kernel)), tb_1 (List.mem_of_getElem? (i := 5) (by first | exact rfl | decide +kernel))⟩
set_option maxRecDepth 20000 in
theorem im_X7_leads : IMk yX7_leads := tb_4 (List.mem_of_getElem? (i := 51) (by first | exact rfl | decide +kernel))
set_option maxRecDepth 20000 in
theorem sl_X7_leads : SLk yX7_leads := tb_0 (List.mem_of_getElem? (i := 18) (by first | exact rfl | decide +kernel))
set_option maxRecDepth 20000 in
theorem mw_X7_listAsked : MWk yX7_listAsked cX7_listAsked 3 (Option.none : Option FieldType) := ⟨tb_4 (List.mem_of_getElem? (i := 100) (by first | exact rfl | decide +kernel)), tb_1 (List.mem_of_getElem? (i := 5) (by first | exact rfl | decide +kernel))⟩
set_option maxRecDepth 20000 in
theorem im_X7_listAsked : IMk yX7_listAsked := tb_4 (List.mem_of_getElem? (i := 99) (by first | exact rfl | decide +kernel))
set_option maxRecDepth 20000 in
theorem sl_X7_listAsked : SLk yX7_listAsked := tb_0 (List.mem_of_getElem? (i := 23) (by first | exact rfl | decide +kernel))
set_option maxRecDepth 20000 in
theorem mw_X7_listFirst : MWk yX7_listFirst cX7_listFirst 5 (Option.none : Option FieldType) := ⟨tb_4 (List.mem_of_getElem? (i := 104) (by first | exact rfl | decide +kernel)), tb_1 (List.mem_of_getElem? (i := 5) (by first | exact rfl | decide +kernel))⟩
set_option maxRecDepth 20000 in
theorem im_X7_listFirst : IMk yX7_listFirst := tb_4 (List.mem_of_getElem? (i := 103) (by first | exact rfl | decide +kernel))
set_option maxRecDepth 20000 in
theorem sl_X7_listFirst : SLk yX7_listFirst := tb_0 (List.mem_of_getElem? (i := 24) (by first | exact rfl | decide +kernel))
set_option maxRecDepth 20000 in
theorem mw_X7_make : MWk yX7_make cX7_make 4 (Option.some FieldType.int) := ⟨tb_4 (List.mem_of_getElem? (i := 40) (by first | exact rfl | decide +kernel)), tb_1 (List.mem_of_getElem? (i := 5) (by first | exact rfl | decide +kernel))⟩
set_option maxRecDepth 20000 in
theorem im_X7_make : IMk yX7_make := tb_4 (List.mem_of_getElem? (i := 39) (by first | exact rfl | decide +kernel))
set_option maxRecDepth 20000 in
theorem sl_X7_make : SLk yX7_make := tb_0 (List.mem_of_getElem? (i := 17) (by first | exact rfl | decide +kernel))
set_option maxRecDepth 20000 in
theorem mw_X7_many : MWk yX7_many cX7_many 5 (Option.some FieldType.int) := ⟨tb_5 (List.mem_of_getElem? (i := 4) (by first | exact rfl | decide +kernel)), tb_1 (List.mem_of_getElem? (i := 5) (by first | exact rfl | decide +kernel))⟩
set_option maxRecDepth 20000 in
theorem im_X7_many : IMk yX7_many := tb_5 (List.mem_of_getElem? (i := 2) (by first | exact rfl | decide +kernel))
set_option maxRecDepth 20000 in
theorem sl_X7_many : SLk yX7_many := tb_5 (List.mem_of_getElem? (i := 3) (by first | exact rfl | decide +kernel))
set_option maxRecDepth 20000 in
theorem mw_X7_method : MWk yX7_method cX7_method 3 (Option.some FieldType.int) := ⟨tb_4 (List.mem_of_getElem? (i := 64) (by first | exact rfl | decide +kernel)), tb_1 (List.mem_of_getElem? (i := 5) (by first | exact rfl | decide +kernel))⟩
set_option maxRecDepth 20000 in
theorem im_X7_method : IMk yX7_method := tb_4 (List.mem_of_getElem? (i := 62) (by first | exact rfl | decide +kernel))
set_option maxRecDepth 20000 in
theorem sl_X7_method : SLk yX7_method := tb_4 (List.mem_of_getElem? (i := 63) (by first | exact rfl | decide +kernel))
set_option maxRecDepth 20000 in
theorem mw_X7_nameAt : MWk yX7_nameAt cX7_nameAt 2 (Option.some FieldType.int) := ⟨tb_4 (List.mem_of_getElem? (i := 196) (by first | exact rfl | decide +kernel)), tb_1 (List.mem_of_getElem? (i := 5) (by first | exact rfl | decide +kernel))⟩
set_option maxRecDepth 20000 in
theorem im_X7_nameAt : IMk yX7_nameAt := tb_4 (List.mem_of_getElem? (i := 195) (by first | exact rfl | decide +kernel))
set_option maxRecDepth 20000 in
theorem sl_X7_nameAt : SLk yX7_nameAt := tb_0 (List.mem_of_getElem? (i := 43) (by first | exact rfl | decide +kernel))
set_option maxRecDepth 20000 in
theorem mw_X7_onTape : MWk yX7_onTape cX7_onTape 2 (Option.none : Option FieldType) := ⟨tb_4 (List.mem_of_getElem? (i := 164) (by first | exact rfl | decide +kernel)), tb_1 (List.mem_of_getElem? (i := 5) (by first | exact rfl | decide +kernel))⟩
set_option maxRecDepth 20000 in
theorem im_X7_onTape : IMk yX7_onTape := tb_4 (List.mem_of_getElem? (i := 163) (by first | exact rfl | decide +kernel))
set_option maxRecDepth 20000 in
theorem sl_X7_onTape : SLk yX7_onTape := tb_0 (List.mem_of_getElem? (i := 35) (by first | exact rfl | decide +kernel))
set_option maxRecDepth 20000 in
theorem mw_X7_ownField : MWk yX7_ownField cX7_ownField 5 (Option.some FieldType.int) := ⟨tb_4 (List.mem_of_getElem? (i := 60) (by first | exact rfl | decide +kernel)), tb_1 (List.mem_of_getElem? (i := 5) (by first | exact rfl | decide +kernel))⟩
set_option maxRecDepth 20000 in
theorem im_X7_ownField : IMk yX7_ownField := tb_4 (List.mem_of_getElem? (i := 59) (by first | exact rfl | decide +kernel))
set_option maxRecDepth 20000 in
theorem sl_X7_ownField : SLk yX7_ownField := tb_0 (List.mem_of_getElem? (i := 19) (by first | exact rfl | decide +kernel))
set_option maxRecDepth 20000 in
theorem mw_X7_ownMethod : MWk yX7_ownMethod cX7_ownMethod 5 (Option.some FieldType.int) := ⟨tb_4 (List.mem_of_getElem? (i := 68) (by first | exact rfl | decide +kernel)), tb_1 (List.mem_of_getElem? (i := 5) (by first | exact rfl | decide +kernel))⟩
set_option maxRecDepth 20000 in
theorem im_X7_ownMethod : IMk yX7_ownMethod := tb_4 (List.mem_of_getElem? (i := 67) (by first | exact rfl | decide +kernel))
set_option maxRecDepth 20000 in
theorem sl_X7_ownMethod : SLk yX7_ownMethod := tb_0 (List.mem_of_getElem? (i := 20) (by first | exact rfl | decide +kernel))
set_option maxRecDepth 20000 in
theorem mw_X7_pushBody : MWk yX7_pushBody cX7_pushBody 2 (Option.none : Option FieldType) := ⟨tb_4 (List.mem_of_getElem? (i := 180) (by first | exact rfl | decide +kernel)), tb_1 (List.mem_of_getElem? (i := 5) (by first | exact rfl | decide +kernel))⟩
set_option maxRecDepth 20000 in
theorem im_X7_pushBody : IMk yX7_pushBody := tb_4 (List.mem_of_getElem? (i := 179) (by first | exact rfl | decide +kernel))
set_option maxRecDepth 20000 in
theorem sl_X7_pushBody : SLk yX7_pushBody := tb_0 (List.mem_of_getElem? (i := 39) (by first | exact rfl | decide +kernel))
set_option maxRecDepth 20000 in
theorem mw_X7_refusal : MWk yX7_refusal cX7_refusal 5 (Option.some FieldType.int) := ⟨tb_4 (List.mem_of_getElem? (i := 140) (by first | exact rfl | decide +kernel)), tb_1 (List.mem_of_getElem? (i := 5) (by first | exact rfl | decide +kernel))⟩
set_option maxRecDepth 20000 in
theorem im_X7_refusal : IMk yX7_refusal := tb_4 (List.mem_of_getElem? (i := 139) (by first | exact rfl | decide +kernel))
set_option maxRecDepth 20000 in
theorem sl_X7_refusal : SLk yX7_refusal := tb_0 (List.mem_of_getElem? (i := 29) (by first | exact rfl | decide +kernel))
set_option maxRecDepth 20000 in
theorem mw_X7_round : MWk yX7_round cX7_round 4 (Option.some FieldType.int) := ⟨tb_4 (List.mem_of_getElem? (i := 120) (by first | exact rfl | decide +kernel)), tb_1 (List.mem_of_getElem? (i := 5) (by first | exact rfl | decide +kernel))⟩
set_option maxRecDepth 20000 in
theorem im_X7_round : IMk yX7_round := tb_4 (List.mem_of_getElem? (i := 118) (by first | exact rfl | decide +kernel))
set_option maxRecDepth 20000 in
theorem sl_X7_round : SLk yX7_round := tb_4 (List.mem_of_getElem? (i := 119) (by first | exact rfl | decide +kernel))
set_option maxRecDepth 20000 in
theorem mw_X7_sizeOf : MWk yX7_sizeOf cX7_sizeOf 2 (Option.some FieldType.int) := ⟨tb_4 (List.mem_of_getElem? (i := 208) (by first | exact rfl | decide +kernel)), tb_1 (List.mem_of_getElem? (i := 5) (by first | exact rfl | decide +kernel))⟩
set_option maxRecDepth 20000 in
theorem im_X7_sizeOf : IMk yX7_sizeOf := tb_4 (List.mem_of_getElem? (i := 207) (by first | exact rfl | decide +kernel))
set_option maxRecDepth 20000 in
theorem sl_X7_sizeOf : SLk yX7_sizeOf := tb_0 (List.mem_of_getElem? (i := 46) (by first | exact rfl | decide +kernel))
set_option maxRecDepth 20000 in
theorem mw_X7_spent : MWk yX7_spent cX7_spent 3 (Option.some FieldType.int) := ⟨tb_5 (List.mem_of_getElem? (i := 0) (by first | exact rfl | decide +kernel)), tb_1 (List.mem_of_getElem? (i := 5) (by first | exact rfl | decide +kernel))⟩
set_option maxRecDepth 20000 in
theorem im_X7_spent : IMk yX7_spent := tb_4 (List.mem_of_getElem? (i := 238) (by first | exact rfl | decide +kernel))
set_option maxRecDepth 20000 in
theorem sl_X7_spent : SLk yX7_spent := tb_4 (List.mem_of_getElem? (i := 239) (by first | exact rfl | decide +kernel))
set_option maxRecDepth 20000 in
theorem mw_X7_start : MWk yX7_start cX7_start 3 (Option.none : Option FieldType) := ⟨tb_4 (List.mem_of_getElem? (i := 176) (by first | exact rfl | decide +kernel)), tb_1 (List.mem_of_getElem? (i := 5) (by first | exact rfl | decide +kernel))⟩
set_option maxRecDepth 20000 in
theorem im_X7_start : IMk yX7_start := tb_4 (List.mem_of_getElem? (i := 175) (by first | exact rfl | decide +kernel))
set_option maxRecDepth 20000 in
theorem sl_X7_start : SLk yX7_start := tb_0 (List.mem_of_getElem? (i := 38) (by first | exact rfl | decide +kernel))
set_option maxRecDepth 20000 in
theorem mw_X7_started : MWk yX7_started cX7_started 5 (Option.some FieldType.int) := ⟨tb_4 (List.mem_of_getElem? (i := 112) (by first | exact rfl | decide +kernel)), tb_1 (List.mem_of_getElem? (i := 5) (by first | exact rfl | decide +kernel))⟩
set_option maxRecDepth 20000 in
theorem im_X7_started : IMk yX7_started := tb_4 (List.mem_of_getElem? (i := 111) (by first | exact rfl | decide +kernel))
set_option maxRecDepth 20000 in
theorem sl_X7_started : SLk yX7_started := tb_0 (List.mem_of_getElem? (i := 26) (by first | exact rfl | decide +kernel))
set_option maxRecDepth 20000 in
theorem mw_X7_state : MWk yX7_state cX7_state 3 (Option.some FieldType.int) := ⟨tb_4 (List.mem_of_getElem? (i := 220) (by first | exact rfl | decide +kernel)), tb_1 (List.mem_of_getElem? (i := 5) (by first | exact rfl | decide +kernel))⟩
set_option maxRecDepth 20000 in
theorem im_X7_state : IMk yX7_state := tb_4 (List.mem_of_getElem? (i := 218) (by first | exact rfl | decide +kernel))
set_option maxRecDepth 20000 in
theorem sl_X7_state : SLk yX7_state := tb_4 (List.mem_of_getElem? (i := 219) (by first | exact rfl | decide +kernel))
set_option maxRecDepth 20000 in
theorem mw_X7_tape : MWk yX7_tape cX7_tape 3 (Option.some FieldType.int) := ⟨tb_4 (List.mem_of_getElem? (i := 228) (by first | exact rfl | decide +kernel)), tb_1 (List.mem_of_getElem? (i := 5) (by first | exact rfl | decide +kernel))⟩
set_option maxRecDepth 20000 in
theorem im_X7_tape : IMk yX7_tape := tb_4 (List.mem_of_getElem? (i := 226) (by first | exact rfl | decide +kernel))
set_option maxRecDepth 20000 in
theorem sl_X7_tape : SLk yX7_tape := tb_4 (List.mem_of_getElem? (i := 227) (by first | exact rfl | decide +kernel))
set_option maxRecDepth 20000 in
theorem mw_X7_told : MWk yX7_told cX7_told 5 (Option.some FieldType.int) := ⟨tb_4 (List.mem_of_getElem? (i := 76) (by first | exact rfl | decide +kernel)), tb_1 (List.mem_of_getElem? (i := 5) (by first | exact rfl | decide +kernel))⟩
set_option maxRecDepth 20000 in
theorem im_X7_told : IMk yX7_told := tb_4 (List.mem_of_getElem? (i := 74) (by first | exact rfl | decide +kernel))
set_option maxRecDepth 20000 in
theorem sl_X7_told : SLk yX7_told := tb_4 (List.mem_of_getElem? (i := 75) (by first | exact rfl | decide +kernel))
set_option maxRecDepth 20000 in
theorem mw_X7_touch : MWk yX7_touch cX7_touch 8 (Option.some FieldType.int) := ⟨tb_4 (List.mem_of_getElem? (i := 136) (by first | exact rfl | decide +kernel)), tb_1 (List.mem_of_getElem? (i := 5) (by first | exact rfl | decide +kernel))⟩
set_option maxRecDepth 20000 in
theorem im_X7_touch : IMk yX7_touch := tb_4 (List.mem_of_getElem? (i := 134) (by first | exact rfl | decide +kernel))
set_option maxRecDepth 20000 in
theorem sl_X7_touch : SLk yX7_touch := tb_4 (List.mem_of_getElem? (i := 135) (by first | exact rfl | decide +kernel))
set_option maxRecDepth 20000 in
theorem mw_X7_typeAt : MWk yX7_typeAt cX7_typeAt 2 (Option.some FieldType.int) := ⟨tb_4 (List.mem_of_getElem? (i := 192) (by first | exact rfl | decide +kernel)), tb_1 (List.mem_of_getElem? (i := 5) (by first | exact rfl | decide +kernel))⟩
set_option maxRecDepth 20000 in
theorem im_X7_typeAt : IMk yX7_typeAt := tb_4 (List.mem_of_getElem? (i := 191) (by first | exact rfl | decide +kernel))
set_option maxRecDepth 20000 in
theorem sl_X7_typeAt : SLk yX7_typeAt := tb_0 (List.mem_of_getElem? (i := 42) (by first | exact rfl | decide +kernel))
set_option maxRecDepth 20000 in
theorem mw_X7_under : MWk yX7_under cX7_under 5 (Option.some FieldType.int) := ⟨tb_4 (List.mem_of_getElem? (i := 48) (by first | exact rfl | decide +kernel)), tb_1 (List.mem_of_getElem? (i := 5) (by first | exact rfl | decide +kernel))⟩
set_option maxRecDepth 20000 in
theorem im_X7_under : IMk yX7_under := tb_4 (List.mem_of_getElem? (i := 46) (by first | exact rfl | decide +kernel))
set_option maxRecDepth 20000 in
theorem sl_X7_under : SLk yX7_under := tb_4 (List.mem_of_getElem? (i := 47) (by first | exact rfl | decide +kernel))
set_option maxRecDepth 20000 in
theorem mw_X7_value : MWk yX7_value cX7_value 5 (Option.some FieldType.int) := ⟨tb_4 (List.mem_of_getElem? (i := 232) (by first | exact rfl | decide +kernel)), tb_1 (List.mem_of_getElem? (i := 5) (by first | exact rfl | decide +kernel))⟩
set_option maxRecDepth 20000 in
theorem im_X7_value : IMk yX7_value := tb_4 (List.mem_of_getElem? (i := 230) (by first | exact rfl | decide +kernel))
set_option maxRecDepth 20000 in
theorem sl_X7_value : SLk yX7_value := tb_4 (List.mem_of_getElem? (i := 231) (by first | exact rfl | decide +kernel))
set_option maxRecDepth 20000 in
theorem mw_X7_valueAt : MWk yX7_valueAt cX7_valueAt 2 (Option.some FieldType.int) := ⟨tb_4 (List.mem_of_getElem? (i := 200) (by first | exact rfl | decide +kernel)), tb_1 (List.mem_of_getElem? (i := 5) (by first | exact rfl | decide +kernel))⟩
set_option maxRecDepth 20000 in
theorem im_X7_valueAt : IMk yX7_valueAt := tb_4 (List.mem_of_getElem? (i := 199) (by first | exact rfl | decide +kernel))
set_option maxRecDepth 20000 in
theorem sl_X7_valueAt : SLk yX7_valueAt := tb_0 (List.mem_of_getElem? (i := 44) (by first | exact rfl | decide +kernel))
set_option maxRecDepth 20000 in
theorem mw_X7_world : MWk yX7_world cX7_world 3 (Option.some FieldType.int) := ⟨tb_4 (List.mem_of_getElem? (i := 128) (by first | exact rfl | decide +kernel)), tb_1 (List.mem_of_getElem? (i := 5) (by first | exact rfl | decide +kernel))⟩
set_option maxRecDepth 20000 in
theorem im_X7_world : IMk yX7_world := tb_4 (List.mem_of_getElem? (i := 126) (by first | exact rfl | decide +kernel))
set_option maxRecDepth 20000 in
theorem sl_X7_world : SLk yX7_world := tb_4 (List.mem_of_getElem? (i := 127) (by first | exact rfl | decide +kernel))
set_option maxRecDepth 20000 in
theorem mw_J9_max_7cf53 : MWk yJ9_max_7cf53 cJ9_max_7cf53 2 (Option.some FieldType.int) := ⟨tb_3 (List.mem_of_getElem? (i := 17) (by first | exact rfl | decide +kernel)), tb_1 (List.mem_of_getElem? (i := 11) (by first | exact rfl | decide +kernel))⟩
set_option maxRecDepth 20000 in
theorem sm_J9_max_7cf53 : SMk yJ9_max_7cf53 := tb_3 (List.mem_of_getElem? (i := 16) (by first | exact rfl | decide +kernel))
set_option maxRecDepth 20000 in
theorem mw_J7_fill_53178 : MWk yJ7_fill_53178 cJ7_fill_53178 4 (Option.none : Option FieldType) := ⟨tb_1 (List.mem_of_getElem? (i := 30) (by first | exact rfl | decide +kernel)), tb_1 (List.mem_of_getElem? (i := 3) (by first | exact rfl | decide +kernel))⟩
set_option maxRecDepth 20000 in
theorem sm_J7_fill_53178 : SMk yJ7_fill_53178 := tb_1 (List.mem_of_getElem? (i := 29) (by first | exact rfl | decide +kernel))
set_option maxRecDepth 20000 in
theorem ar_75 : Cond.arrayOver (FieldType.object "StartBench$Type") ∈ lw_tbl := tb_1 (List.mem_of_getElem? (i := 27) (by first | exact rfl | decide +kernel))
set_option maxRecDepth 20000 in
theorem ar_106 : Cond.arrayClass (FieldType.int) ∈ lw_tbl := tb_1 (List.mem_of_getElem? (i := 58) (by first | exact rfl | decide +kernel))
set_option maxRecDepth 20000 in
theorem ar_107 : Cond.arrayClass (FieldType.long) ∈ lw_tbl := tb_1 (List.mem_of_getElem? (i := 59) (by first | exact rfl | decide +kernel))
set_option maxRecDepth 20000 in
theorem ar_109 : Cond.arrayOver (FieldType.object "StartBench$World") ∈ lw_tbl := tb_1 (List.mem_of_getElem? (i := 61) (by first | exact rfl | decide +kernel))
set_option maxRecDepth 20000 in
theorem ar_186 : Cond.arrayOver (FieldType.object "StartBench$Body") ∈ lw_tbl := tb_1 (List.mem_of_getElem? (i := 138) (by first | exact rfl | decide +kernel))
set_option maxRecDepth 20000 in
theorem ar_193 : Cond.arrayOver (FieldType.object "StartBench$Action") ∈ lw_tbl := tb_1 (List.mem_of_getElem? (i := 145) (by first | exact rfl | decide +kernel))
set_option maxRecDepth 20000 in
theorem ar_793 : Cond.arrayClass (FieldType.boolean) ∈ lw_tbl := tb_4 (List.mem_of_getElem? (i := 25) (by first | exact rfl | decide +kernel))
set_option maxRecDepth 20000 in
theorem oi_code : Cond.code objectInit ⟨#[0xb1]⟩ 1 none ∈ lw_tbl := tb_1 (List.mem_of_getElem? (i := 19) (by first | exact rfl | decide +kernel))
set_option maxRecDepth 20000 in
theorem oi_inst : Cond.instanceMethod objectInit ∈ lw_tbl := tb_1 (List.mem_of_getElem? (i := 18) (by first | exact rfl | decide +kernel))

/-! the classes' tables at the start; descriptors; new objects -/
theorem nle {a b : Nat} (h : Nat.ble a b = true) : a ≤ b := Nat.le_of_ble_eq_true h
def a_E (a0 : Array Value) (s0 : State) (D : va_G) (cI cL : ClassId) : Prop := a_Z a0 s0 ∧ va_K D vwCl [(cI, .int), (cL, .long)] s0
theorem uw_By : ∀ w ∈ u_ws "NarrowingPacker$Bytes" F_By 2, w ∈ tables_1 := by decide +kernel
theorem G_By {a0 : Array Value} {s0 : State} (Z : a_Z a0 s0) : a_cl a0 s0 0 "NarrowingPacker$Bytes" F_By 2 t_By := ⟨rfl, fun w hw => Z w (List.mem_append_right _ (uw_By w hw)), by decide +kernel, by decide +kernel⟩
theorem nf_By : ∀ j, j < 2 → defaultValue (t_By j) = vp_V [.null, .int (zI 0)] j := by
  intro j hj
  match j, hj with
  | 0, _ => rfl
  | 1, _ => rfl
  | i + 2, hh => exact absurd hh (by omega)
theorem uw_Ch : ∀ w ∈ u_ws "NarrowingPacker$Chances" F_Ch 1, w ∈ tables_1 := by decide +kernel
theorem G_Ch {a0 : Array Value} {s0 : State} (Z : a_Z a0 s0) : a_cl a0 s0 1 "NarrowingPacker$Chances" F_Ch 1 t_Ch := ⟨rfl, fun w hw => Z w (List.mem_append_right _ (uw_Ch w hw)), by decide +kernel, by decide +kernel⟩
theorem nf_Ch : ∀ j, j < 1 → defaultValue (t_Ch j) = vp_V [.null] j := by
  intro j hj
  match j, hj with
  | 0, _ => rfl
  | i + 1, hh => exact absurd hh (by omega)
theorem uw_Co : ∀ w ∈ u_ws "NarrowingPacker$Chooser" F_Co 5, w ∈ tables_1 := by decide +kernel
theorem G_Co {a0 : Array Value} {s0 : State} (Z : a_Z a0 s0) : a_cl a0 s0 2 "NarrowingPacker$Chooser" F_Co 5 t_Co := ⟨rfl, fun w hw => Z w (List.mem_append_right _ (uw_Co w hw)), by decide +kernel, by decide +kernel⟩
theorem nf_Co : ∀ j, j < 5 → defaultValue (t_Co j) = vp_V [.int (zI 0), .int (zI 0), .int (zI 0), .int (zI 0), .int (zI 0)] j := by
  intro j hj
  match j, hj with
  | 0, _ => rfl
  | 1, _ => rfl
  | 2, _ => rfl
  | 3, _ => rfl
  | 4, _ => rfl
  | i + 5, hh => exact absurd hh (by omega)
theorem uw_Fo : ∀ w ∈ u_ws "NarrowingPacker$Follower" F_Fo 5, w ∈ tables_1 := by decide +kernel
theorem G_Fo {a0 : Array Value} {s0 : State} (Z : a_Z a0 s0) : a_cl a0 s0 3 "NarrowingPacker$Follower" F_Fo 5 t_Fo := ⟨rfl, fun w hw => Z w (List.mem_append_right _ (uw_Fo w hw)), by decide +kernel, by decide +kernel⟩
theorem nf_Fo : ∀ j, j < 5 → defaultValue (t_Fo j) = vp_V [.null, .null, .int (zI 0), .long (zL 0), .long (zL 0)] j := by
  intro j hj
  match j, hj with
  | 0, _ => rfl
  | 1, _ => rfl
  | 2, _ => rfl
  | 3, _ => rfl
  | 4, _ => rfl
  | i + 5, hh => exact absurd hh (by omega)
theorem uw_Hi : ∀ w ∈ u_ws "NarrowingPacker$History" F_Hi 3, w ∈ tables_1 := by decide +kernel
theorem G_Hi {a0 : Array Value} {s0 : State} (Z : a_Z a0 s0) : a_cl a0 s0 4 "NarrowingPacker$History" F_Hi 3 t_Hi := ⟨rfl, fun w hw => Z w (List.mem_append_right _ (uw_Hi w hw)), by decide +kernel, by decide +kernel⟩
theorem nf_Hi : ∀ j, j < 3 → defaultValue (t_Hi j) = vp_V [.null, .null, .int (zI 0)] j := by
  intro j hj
  match j, hj with
  | 0, _ => rfl
  | 1, _ => rfl
  | 2, _ => rfl
  | i + 3, hh => exact absurd hh (by omega)
theorem uw_Na : ∀ w ∈ u_ws "NarrowingPacker$Narrower" F_Na 4, w ∈ tables_1 := by decide +kernel
theorem G_Na {a0 : Array Value} {s0 : State} (Z : a_Z a0 s0) : a_cl a0 s0 5 "NarrowingPacker$Narrower" F_Na 4 t_Na := ⟨rfl, fun w hw => Z w (List.mem_append_right _ (uw_Na w hw)), by decide +kernel, by decide +kernel⟩
theorem nf_Na : ∀ j, j < 4 → defaultValue (t_Na j) = vp_V [.null, .null, .int (zI 0), .long (zL 0)] j := by
  intro j hj
  match j, hj with
  | 0, _ => rfl
  | 1, _ => rfl
  | 2, _ => rfl
  | 3, _ => rfl
  | i + 4, hh => exact absurd hh (by omega)
theorem uw_Pa : ∀ w ∈ u_ws "NarrowingPacker$Packet" F_Pa 5, w ∈ tables_1 := by decide +kernel
theorem G_Pa {a0 : Array Value} {s0 : State} (Z : a_Z a0 s0) : a_cl a0 s0 6 "NarrowingPacker$Packet" F_Pa 5 t_Pa := ⟨rfl, fun w hw => Z w (List.mem_append_right _ (uw_Pa w hw)), by decide +kernel, by decide +kernel⟩
theorem nf_Pa : ∀ j, j < 5 → defaultValue (t_Pa j) = vp_V [.int (zI 0), .int (zI 0), .int (zI 0), .int (zI 0), .int (zI 0)] j := by
  intro j hj
  match j, hj with
  | 0, _ => rfl
  | 1, _ => rfl
  | 2, _ => rfl
  | 3, _ => rfl
  | 4, _ => rfl
  | i + 5, hh => exact absurd hh (by omega)
theorem uw_Pl : ∀ w ∈ u_ws "NarrowingPacker$PacketList" F_Pl 4, w ∈ tables_1 := by decide +kernel
theorem G_Pl {a0 : Array Value} {s0 : State} (Z : a_Z a0 s0) : a_cl a0 s0 7 "NarrowingPacker$PacketList" F_Pl 4 t_Pl := ⟨rfl, fun w hw => Z w (List.mem_append_right _ (uw_Pl w hw)), by decide +kernel, by decide +kernel⟩
theorem nf_Pl : ∀ j, j < 4 → defaultValue (t_Pl j) = vp_V [.null, .null, .null, .int (zI 0)] j := by
  intro j hj
  match j, hj with
  | 0, _ => rfl
  | 1, _ => rfl
  | 2, _ => rfl
  | 3, _ => rfl
  | i + 4, hh => exact absurd hh (by omega)
theorem uw_Re : ∀ w ∈ u_ws "NarrowingPacker$PacketReader" F_Re 1, w ∈ tables_1 := by decide +kernel
theorem G_Re {a0 : Array Value} {s0 : State} (Z : a_Z a0 s0) : a_cl a0 s0 8 "NarrowingPacker$PacketReader" F_Re 1 t_Re := ⟨rfl, fun w hw => Z w (List.mem_append_right _ (uw_Re w hw)), by decide +kernel, by decide +kernel⟩
theorem nf_Re : ∀ j, j < 1 → defaultValue (t_Re j) = vp_V [.null] j := by
  intro j hj
  match j, hj with
  | 0, _ => rfl
  | i + 1, hh => exact absurd hh (by omega)
theorem uw_Wr : ∀ w ∈ u_ws "NarrowingPacker$PacketWriter" F_Wr 1, w ∈ tables_1 := by decide +kernel
theorem G_Wr {a0 : Array Value} {s0 : State} (Z : a_Z a0 s0) : a_cl a0 s0 9 "NarrowingPacker$PacketWriter" F_Wr 1 t_Wr := ⟨rfl, fun w hw => Z w (List.mem_append_right _ (uw_Wr w hw)), by decide +kernel, by decide +kernel⟩
theorem nf_Wr : ∀ j, j < 1 → defaultValue (t_Wr j) = vp_V [.null] j := by
  intro j hj
  match j, hj with
  | 0, _ => rfl
  | i + 1, hh => exact absurd hh (by omega)
theorem uw_Np : ∀ w ∈ u_ws "NarrowingPacker" F_Np 12, w ∈ tables_1 := by decide +kernel
theorem G_Np {a0 : Array Value} {s0 : State} (Z : a_Z a0 s0) : a_cl a0 s0 10 "NarrowingPacker" F_Np 12 t_Np := ⟨rfl, fun w hw => Z w (List.mem_append_right _ (uw_Np w hw)), by decide +kernel, by decide +kernel⟩
theorem nf_Np : ∀ j, j < 12 → defaultValue (t_Np j) = vp_V [.null, .null, .null, .null, .null, .int (zI 0), .null, .null, .null, .null, .null, .null] j := by
  intro j hj
  match j, hj with
  | 0, _ => rfl
  | 1, _ => rfl
  | 2, _ => rfl
  | 3, _ => rfl
  | 4, _ => rfl
  | 5, _ => rfl
  | 6, _ => rfl
  | 7, _ => rfl
  | 8, _ => rfl
  | 9, _ => rfl
  | 10, _ => rfl
  | 11, _ => rfl
  | i + 12, hh => exact absurd hh (by omega)
theorem uw_Mo : ∀ w ∈ u_ws "NarrowingPackerModel" F_Mo 34, w ∈ tables_1 := by decide +kernel
theorem G_Mo {a0 : Array Value} {s0 : State} (Z : a_Z a0 s0) : a_cl a0 s0 11 "NarrowingPackerModel" F_Mo 34 t_Mo := ⟨rfl, fun w hw => Z w (List.mem_append_right _ (uw_Mo w hw)), by decide +kernel, by decide +kernel⟩
theorem nf_Mo : ∀ j, j < 34 → defaultValue (t_Mo j) = vp_V [.int (zI 0), .int (zI 0), .int (zI 0), .null, .int (zI 0), .null, .int (zI 0), .null, .int (zI 0), .int (zI 0), .null, .null, .null, .null, .int (zI 0), .int (zI 0), .null, .long (zL 0), .int (zI 0), .null, .long (zL 0), .int (zI 0), .int (zI 0), .int (zI 0), .null, .null, .int (zI 0), .null, .null, .null, .int (zI 0), .int (zI 0), .int (zI 0), .int (zI 0)] j := by
  intro j hj
  match j, hj with
  | 0, _ => rfl
  | 1, _ => rfl
  | 2, _ => rfl
  | 3, _ => rfl
  | 4, _ => rfl
  | 5, _ => rfl
  | 6, _ => rfl
  | 7, _ => rfl
  | 8, _ => rfl
  | 9, _ => rfl
  | 10, _ => rfl
  | 11, _ => rfl
  | 12, _ => rfl
  | 13, _ => rfl
  | 14, _ => rfl
  | 15, _ => rfl
  | 16, _ => rfl
  | 17, _ => rfl
  | 18, _ => rfl
  | 19, _ => rfl
  | 20, _ => rfl
  | 21, _ => rfl
  | 22, _ => rfl
  | 23, _ => rfl
  | 24, _ => rfl
  | 25, _ => rfl
  | 26, _ => rfl
  | 27, _ => rfl
  | 28, _ => rfl
  | 29, _ => rfl
  | 30, _ => rfl
  | 31, _ => rfl
  | 32, _ => rfl
  | 33, _ => rfl
  | i + 34, hh => exact absurd hh (by omega)
theorem nh_Np_init : y_Np_init.cls ≠ "java/lang/invoke/MethodHandle" ∧ y_Np_init.cls ≠ "java/lang/invoke/VarHandle" := by decide
theorem ln_Np_init : (parseMethodDescriptor y_Np_init.desc).map (fun d => d.parameters.length) = some 1 := by decide +kernel
theorem nh_Np_type : y_Np_type.cls ≠ "java/lang/invoke/MethodHandle" ∧ y_Np_type.cls ≠ "java/lang/invoke/VarHandle" := by decide
theorem ln_Np_type : (parseMethodDescriptor y_Np_type.desc).map (fun d => d.parameters.length) = some 1 := by decide +kernel
theorem nh_Np_wipe : y_Np_wipe.cls ≠ "java/lang/invoke/MethodHandle" ∧ y_Np_wipe.cls ≠ "java/lang/invoke/VarHandle" := by decide
theorem ln_Np_wipe : (parseMethodDescriptor y_Np_wipe.desc).map (fun d => d.parameters.length) = some 0 := by decide +kernel
theorem nh_Np_pack : y_Np_pack.cls ≠ "java/lang/invoke/MethodHandle" ∧ y_Np_pack.cls ≠ "java/lang/invoke/VarHandle" := by decide
theorem ln_Np_pack : (parseMethodDescriptor y_Np_pack.desc).map (fun d => d.parameters.length) = some 0 := by decide +kernel
theorem nh_Np_packets : y_Np_packets.cls ≠ "java/lang/invoke/MethodHandle" ∧ y_Np_packets.cls ≠ "java/lang/invoke/VarHandle" := by decide
theorem ln_Np_packets : (parseMethodDescriptor y_Np_packets.desc).map (fun d => d.parameters.length) = some 0 := by decide +kernel
theorem nh_Np_packet : y_Np_packet.cls ≠ "java/lang/invoke/MethodHandle" ∧ y_Np_packet.cls ≠ "java/lang/invoke/VarHandle" := by decide
theorem ln_Np_packet : (parseMethodDescriptor y_Np_packet.desc).map (fun d => d.parameters.length) = some 2 := by decide +kernel
theorem nh_Np_chance : y_Np_chance.cls ≠ "java/lang/invoke/MethodHandle" ∧ y_Np_chance.cls ≠ "java/lang/invoke/VarHandle" := by decide
theorem ln_Np_chance : (parseMethodDescriptor y_Np_chance.desc).map (fun d => d.parameters.length) = some 2 := by decide +kernel
theorem nh_Np_size : y_Np_size.cls ≠ "java/lang/invoke/MethodHandle" ∧ y_Np_size.cls ≠ "java/lang/invoke/VarHandle" := by decide
theorem ln_Np_size : (parseMethodDescriptor y_Np_size.desc).map (fun d => d.parameters.length) = some 0 := by decide +kernel
theorem nh_Np_at : y_Np_at.cls ≠ "java/lang/invoke/MethodHandle" ∧ y_Np_at.cls ≠ "java/lang/invoke/VarHandle" := by decide
theorem ln_Np_at : (parseMethodDescriptor y_Np_at.desc).map (fun d => d.parameters.length) = some 1 := by decide +kernel
theorem nh_Np_add : y_Np_add.cls ≠ "java/lang/invoke/MethodHandle" ∧ y_Np_add.cls ≠ "java/lang/invoke/VarHandle" := by decide
theorem ln_Np_add : (parseMethodDescriptor y_Np_add.desc).map (fun d => d.parameters.length) = some 1 := by decide +kernel
theorem nh_Np_put : y_Np_put.cls ≠ "java/lang/invoke/MethodHandle" ∧ y_Np_put.cls ≠ "java/lang/invoke/VarHandle" := by decide
theorem ln_Np_put : (parseMethodDescriptor y_Np_put.desc).map (fun d => d.parameters.length) = some 2 := by decide +kernel
theorem nh_Np_cut : y_Np_cut.cls ≠ "java/lang/invoke/MethodHandle" ∧ y_Np_cut.cls ≠ "java/lang/invoke/VarHandle" := by decide
theorem ln_Np_cut : (parseMethodDescriptor y_Np_cut.desc).map (fun d => d.parameters.length) = some 1 := by decide +kernel
theorem nh_Np_unpack : y_Np_unpack.cls ≠ "java/lang/invoke/MethodHandle" ∧ y_Np_unpack.cls ≠ "java/lang/invoke/VarHandle" := by decide
theorem ln_Np_unpack : (parseMethodDescriptor y_Np_unpack.desc).map (fun d => d.parameters.length) = some 0 := by decide +kernel
theorem nh_Np_told : y_Np_told.cls ≠ "java/lang/invoke/MethodHandle" ∧ y_Np_told.cls ≠ "java/lang/invoke/VarHandle" := by decide
theorem ln_Np_told : (parseMethodDescriptor y_Np_told.desc).map (fun d => d.parameters.length) = some 0 := by decide +kernel
theorem nh_Np_byteAt : y_Np_byteAt.cls ≠ "java/lang/invoke/MethodHandle" ∧ y_Np_byteAt.cls ≠ "java/lang/invoke/VarHandle" := by decide
theorem ln_Np_byteAt : (parseMethodDescriptor y_Np_byteAt.desc).map (fun d => d.parameters.length) = some 1 := by decide +kernel
theorem nh_Np_isByte : y_Np_isByte.cls ≠ "java/lang/invoke/MethodHandle" ∧ y_Np_isByte.cls ≠ "java/lang/invoke/VarHandle" := by decide
theorem ln_Np_isByte : (parseMethodDescriptor y_Np_isByte.desc).map (fun d => d.parameters.length) = some 1 := by decide +kernel
theorem nh_Np_writeSource : y_Np_writeSource.cls ≠ "java/lang/invoke/MethodHandle" ∧ y_Np_writeSource.cls ≠ "java/lang/invoke/VarHandle" := by decide
theorem ln_Np_writeSource : (parseMethodDescriptor y_Np_writeSource.desc).map (fun d => d.parameters.length) = some 0 := by decide +kernel
theorem nh_Np_keepPacking : y_Np_keepPacking.cls ≠ "java/lang/invoke/MethodHandle" ∧ y_Np_keepPacking.cls ≠ "java/lang/invoke/VarHandle" := by decide
theorem ln_Np_keepPacking : (parseMethodDescriptor y_Np_keepPacking.desc).map (fun d => d.parameters.length) = some 1 := by decide +kernel
theorem nh_Np_refuseWhatCannotBeTold : y_Np_refuseWhatCannotBeTold.cls ≠ "java/lang/invoke/MethodHandle" ∧ y_Np_refuseWhatCannotBeTold.cls ≠ "java/lang/invoke/VarHandle" := by decide
theorem ln_Np_refuseWhatCannotBeTold : (parseMethodDescriptor y_Np_refuseWhatCannotBeTold.desc).map (fun d => d.parameters.length) = some 0 := by decide +kernel
theorem nh_Mo_init : y_Mo_init.cls ≠ "java/lang/invoke/MethodHandle" ∧ y_Mo_init.cls ≠ "java/lang/invoke/VarHandle" := by decide
theorem ln_Mo_init : (parseMethodDescriptor y_Mo_init.desc).map (fun d => d.parameters.length) = some 1 := by decide +kernel
theorem nh_Mo_thrown : y_Mo_thrown.cls ≠ "java/lang/invoke/MethodHandle" ∧ y_Mo_thrown.cls ≠ "java/lang/invoke/VarHandle" := by decide
theorem ln_Mo_thrown : (parseMethodDescriptor y_Mo_thrown.desc).map (fun d => d.parameters.length) = some 0 := by decide +kernel
theorem nh_Mo_isByte : y_Mo_isByte.cls ≠ "java/lang/invoke/MethodHandle" ∧ y_Mo_isByte.cls ≠ "java/lang/invoke/VarHandle" := by decide
theorem ln_Mo_isByte : (parseMethodDescriptor y_Mo_isByte.desc).map (fun d => d.parameters.length) = some 1 := by decide +kernel
theorem nh_Mo_type : y_Mo_type.cls ≠ "java/lang/invoke/MethodHandle" ∧ y_Mo_type.cls ≠ "java/lang/invoke/VarHandle" := by decide
theorem ln_Mo_type : (parseMethodDescriptor y_Mo_type.desc).map (fun d => d.parameters.length) = some 1 := by decide +kernel
theorem nh_Mo_wipe : y_Mo_wipe.cls ≠ "java/lang/invoke/MethodHandle" ∧ y_Mo_wipe.cls ≠ "java/lang/invoke/VarHandle" := by decide
theorem ln_Mo_wipe : (parseMethodDescriptor y_Mo_wipe.desc).map (fun d => d.parameters.length) = some 0 := by decide +kernel
theorem nh_Mo_begin : y_Mo_begin.cls ≠ "java/lang/invoke/MethodHandle" ∧ y_Mo_begin.cls ≠ "java/lang/invoke/VarHandle" := by decide
theorem ln_Mo_begin : (parseMethodDescriptor y_Mo_begin.desc).map (fun d => d.parameters.length) = some 1 := by decide +kernel
theorem nh_Mo_grow : y_Mo_grow.cls ≠ "java/lang/invoke/MethodHandle" ∧ y_Mo_grow.cls ≠ "java/lang/invoke/VarHandle" := by decide
theorem ln_Mo_grow : (parseMethodDescriptor y_Mo_grow.desc).map (fun d => d.parameters.length) = some 1 := by decide +kernel
theorem nh_Mo_read : y_Mo_read.cls ≠ "java/lang/invoke/MethodHandle" ∧ y_Mo_read.cls ≠ "java/lang/invoke/VarHandle" := by decide
theorem ln_Mo_read : (parseMethodDescriptor y_Mo_read.desc).map (fun d => d.parameters.length) = some 0 := by decide +kernel
theorem nh_Mo_widen : y_Mo_widen.cls ≠ "java/lang/invoke/MethodHandle" ∧ y_Mo_widen.cls ≠ "java/lang/invoke/VarHandle" := by decide
theorem ln_Mo_widen : (parseMethodDescriptor y_Mo_widen.desc).map (fun d => d.parameters.length) = some 0 := by decide +kernel
theorem nh_Mo_bit : y_Mo_bit.cls ≠ "java/lang/invoke/MethodHandle" ∧ y_Mo_bit.cls ≠ "java/lang/invoke/VarHandle" := by decide
theorem ln_Mo_bit : (parseMethodDescriptor y_Mo_bit.desc).map (fun d => d.parameters.length) = some 2 := by decide +kernel
theorem nh_Mo_tree : y_Mo_tree.cls ≠ "java/lang/invoke/MethodHandle" ∧ y_Mo_tree.cls ≠ "java/lang/invoke/VarHandle" := by decide
theorem ln_Mo_tree : (parseMethodDescriptor y_Mo_tree.desc).map (fun d => d.parameters.length) = some 3 := by decide +kernel
theorem nh_Mo_row : y_Mo_row.cls ≠ "java/lang/invoke/MethodHandle" ∧ y_Mo_row.cls ≠ "java/lang/invoke/VarHandle" := by decide
theorem ln_Mo_row : (parseMethodDescriptor y_Mo_row.desc).map (fun d => d.parameters.length) = some 3 := by decide +kernel
theorem nh_Mo_literal : y_Mo_literal.cls ≠ "java/lang/invoke/MethodHandle" ∧ y_Mo_literal.cls ≠ "java/lang/invoke/VarHandle" := by decide
theorem ln_Mo_literal : (parseMethodDescriptor y_Mo_literal.desc).map (fun d => d.parameters.length) = some 1 := by decide +kernel
theorem nh_Mo_length : y_Mo_length.cls ≠ "java/lang/invoke/MethodHandle" ∧ y_Mo_length.cls ≠ "java/lang/invoke/VarHandle" := by decide
theorem ln_Mo_length : (parseMethodDescriptor y_Mo_length.desc).map (fun d => d.parameters.length) = some 2 := by decide +kernel
theorem nh_Mo_below : y_Mo_below.cls ≠ "java/lang/invoke/MethodHandle" ∧ y_Mo_below.cls ≠ "java/lang/invoke/VarHandle" := by decide
theorem ln_Mo_below : (parseMethodDescriptor y_Mo_below.desc).map (fun d => d.parameters.length) = some 1 := by decide +kernel
theorem nh_Mo_distance : y_Mo_distance.cls ≠ "java/lang/invoke/MethodHandle" ∧ y_Mo_distance.cls ≠ "java/lang/invoke/VarHandle" := by decide
theorem ln_Mo_distance : (parseMethodDescriptor y_Mo_distance.desc).map (fun d => d.parameters.length) = some 2 := by decide +kernel
theorem nh_Mo_echo : y_Mo_echo.cls ≠ "java/lang/invoke/MethodHandle" ∧ y_Mo_echo.cls ≠ "java/lang/invoke/VarHandle" := by decide
theorem ln_Mo_echo : (parseMethodDescriptor y_Mo_echo.desc).map (fun d => d.parameters.length) = some 1 := by decide +kernel
theorem nh_Mo_tell : y_Mo_tell.cls ≠ "java/lang/invoke/MethodHandle" ∧ y_Mo_tell.cls ≠ "java/lang/invoke/VarHandle" := by decide
theorem ln_Mo_tell : (parseMethodDescriptor y_Mo_tell.desc).map (fun d => d.parameters.length) = some 1 := by decide +kernel
theorem nh_Mo_note : y_Mo_note.cls ≠ "java/lang/invoke/MethodHandle" ∧ y_Mo_note.cls ≠ "java/lang/invoke/VarHandle" := by decide
theorem ln_Mo_note : (parseMethodDescriptor y_Mo_note.desc).map (fun d => d.parameters.length) = some 3 := by decide +kernel
theorem nh_Mo_tellLiteral : y_Mo_tellLiteral.cls ≠ "java/lang/invoke/MethodHandle" ∧ y_Mo_tellLiteral.cls ≠ "java/lang/invoke/VarHandle" := by decide
theorem ln_Mo_tellLiteral : (parseMethodDescriptor y_Mo_tellLiteral.desc).map (fun d => d.parameters.length) = some 1 := by decide +kernel
theorem nh_Mo_tellFar : y_Mo_tellFar.cls ≠ "java/lang/invoke/MethodHandle" ∧ y_Mo_tellFar.cls ≠ "java/lang/invoke/VarHandle" := by decide
theorem ln_Mo_tellFar : (parseMethodDescriptor y_Mo_tellFar.desc).map (fun d => d.parameters.length) = some 4 := by decide +kernel
theorem nh_Mo_packet0 : y_Mo_packet0.cls ≠ "java/lang/invoke/MethodHandle" ∧ y_Mo_packet0.cls ≠ "java/lang/invoke/VarHandle" := by decide
theorem ln_Mo_packet0 : (parseMethodDescriptor y_Mo_packet0.desc).map (fun d => d.parameters.length) = some 0 := by decide +kernel
theorem nh_Mo_agree : y_Mo_agree.cls ≠ "java/lang/invoke/MethodHandle" ∧ y_Mo_agree.cls ≠ "java/lang/invoke/VarHandle" := by decide
theorem ln_Mo_agree : (parseMethodDescriptor y_Mo_agree.desc).map (fun d => d.parameters.length) = some 2 := by decide +kernel
theorem nh_Mo_choose : y_Mo_choose.cls ≠ "java/lang/invoke/MethodHandle" ∧ y_Mo_choose.cls ≠ "java/lang/invoke/VarHandle" := by decide
theorem ln_Mo_choose : (parseMethodDescriptor y_Mo_choose.desc).map (fun d => d.parameters.length) = some 0 := by decide +kernel
theorem nh_Mo_pack : y_Mo_pack.cls ≠ "java/lang/invoke/MethodHandle" ∧ y_Mo_pack.cls ≠ "java/lang/invoke/VarHandle" := by decide
theorem ln_Mo_pack : (parseMethodDescriptor y_Mo_pack.desc).map (fun d => d.parameters.length) = some 0 := by decide +kernel
theorem nh_Mo_unpack : y_Mo_unpack.cls ≠ "java/lang/invoke/MethodHandle" ∧ y_Mo_unpack.cls ≠ "java/lang/invoke/VarHandle" := by decide
theorem ln_Mo_unpack : (parseMethodDescriptor y_Mo_unpack.desc).map (fun d => d.parameters.length) = some 0 := by decide +kernel
theorem nh_Mo_packets : y_Mo_packets.cls ≠ "java/lang/invoke/MethodHandle" ∧ y_Mo_packets.cls ≠ "java/lang/invoke/VarHandle" := by decide
theorem ln_Mo_packets : (parseMethodDescriptor y_Mo_packets.desc).map (fun d => d.parameters.length) = some 0 := by decide +kernel
theorem nh_Mo_packet2 : y_Mo_packet2.cls ≠ "java/lang/invoke/MethodHandle" ∧ y_Mo_packet2.cls ≠ "java/lang/invoke/VarHandle" := by decide
theorem ln_Mo_packet2 : (parseMethodDescriptor y_Mo_packet2.desc).map (fun d => d.parameters.length) = some 2 := by decide +kernel
theorem nh_Mo_chance : y_Mo_chance.cls ≠ "java/lang/invoke/MethodHandle" ∧ y_Mo_chance.cls ≠ "java/lang/invoke/VarHandle" := by decide
theorem ln_Mo_chance : (parseMethodDescriptor y_Mo_chance.desc).map (fun d => d.parameters.length) = some 2 := by decide +kernel
theorem nh_Mo_size : y_Mo_size.cls ≠ "java/lang/invoke/MethodHandle" ∧ y_Mo_size.cls ≠ "java/lang/invoke/VarHandle" := by decide
theorem ln_Mo_size : (parseMethodDescriptor y_Mo_size.desc).map (fun d => d.parameters.length) = some 0 := by decide +kernel
theorem nh_Mo_at : y_Mo_at.cls ≠ "java/lang/invoke/MethodHandle" ∧ y_Mo_at.cls ≠ "java/lang/invoke/VarHandle" := by decide
theorem ln_Mo_at : (parseMethodDescriptor y_Mo_at.desc).map (fun d => d.parameters.length) = some 1 := by decide +kernel
theorem nh_Mo_add : y_Mo_add.cls ≠ "java/lang/invoke/MethodHandle" ∧ y_Mo_add.cls ≠ "java/lang/invoke/VarHandle" := by decide
theorem ln_Mo_add : (parseMethodDescriptor y_Mo_add.desc).map (fun d => d.parameters.length) = some 1 := by decide +kernel
theorem nh_Mo_put : y_Mo_put.cls ≠ "java/lang/invoke/MethodHandle" ∧ y_Mo_put.cls ≠ "java/lang/invoke/VarHandle" := by decide
theorem ln_Mo_put : (parseMethodDescriptor y_Mo_put.desc).map (fun d => d.parameters.length) = some 2 := by decide +kernel
theorem nh_Mo_cut : y_Mo_cut.cls ≠ "java/lang/invoke/MethodHandle" ∧ y_Mo_cut.cls ≠ "java/lang/invoke/VarHandle" := by decide
theorem ln_Mo_cut : (parseMethodDescriptor y_Mo_cut.desc).map (fun d => d.parameters.length) = some 1 := by decide +kernel
theorem nh_Mo_told : y_Mo_told.cls ≠ "java/lang/invoke/MethodHandle" ∧ y_Mo_told.cls ≠ "java/lang/invoke/VarHandle" := by decide
theorem ln_Mo_told : (parseMethodDescriptor y_Mo_told.desc).map (fun d => d.parameters.length) = some 0 := by decide +kernel
theorem nh_Mo_byteAt : y_Mo_byteAt.cls ≠ "java/lang/invoke/MethodHandle" ∧ y_Mo_byteAt.cls ≠ "java/lang/invoke/VarHandle" := by decide
theorem ln_Mo_byteAt : (parseMethodDescriptor y_Mo_byteAt.desc).map (fun d => d.parameters.length) = some 1 := by decide +kernel
theorem nh_By_init : y_By_init.cls ≠ "java/lang/invoke/MethodHandle" ∧ y_By_init.cls ≠ "java/lang/invoke/VarHandle" := by decide
theorem ln_By_init : (parseMethodDescriptor y_By_init.desc).map (fun d => d.parameters.length) = some 1 := by decide +kernel
theorem nh_By_has : y_By_has.cls ≠ "java/lang/invoke/MethodHandle" ∧ y_By_has.cls ≠ "java/lang/invoke/VarHandle" := by decide
theorem ln_By_has : (parseMethodDescriptor y_By_has.desc).map (fun d => d.parameters.length) = some 1 := by decide +kernel
theorem nh_By_get : y_By_get.cls ≠ "java/lang/invoke/MethodHandle" ∧ y_By_get.cls ≠ "java/lang/invoke/VarHandle" := by decide
theorem ln_By_get : (parseMethodDescriptor y_By_get.desc).map (fun d => d.parameters.length) = some 1 := by decide +kernel
theorem nh_By_append : y_By_append.cls ≠ "java/lang/invoke/MethodHandle" ∧ y_By_append.cls ≠ "java/lang/invoke/VarHandle" := by decide
theorem ln_By_append : (parseMethodDescriptor y_By_append.desc).map (fun d => d.parameters.length) = some 1 := by decide +kernel
theorem nh_By_shorten : y_By_shorten.cls ≠ "java/lang/invoke/MethodHandle" ∧ y_By_shorten.cls ≠ "java/lang/invoke/VarHandle" := by decide
theorem ln_By_shorten : (parseMethodDescriptor y_By_shorten.desc).map (fun d => d.parameters.length) = some 1 := by decide +kernel
theorem nh_By_copy : y_By_copy.cls ≠ "java/lang/invoke/MethodHandle" ∧ y_By_copy.cls ≠ "java/lang/invoke/VarHandle" := by decide
theorem ln_By_copy : (parseMethodDescriptor y_By_copy.desc).map (fun d => d.parameters.length) = some 2 := by decide +kernel
theorem nh_Ch_init : y_Ch_init.cls ≠ "java/lang/invoke/MethodHandle" ∧ y_Ch_init.cls ≠ "java/lang/invoke/VarHandle" := by decide
theorem ln_Ch_init : (parseMethodDescriptor y_Ch_init.desc).map (fun d => d.parameters.length) = some 0 := by decide +kernel
theorem nh_Ch_forget : y_Ch_forget.cls ≠ "java/lang/invoke/MethodHandle" ∧ y_Ch_forget.cls ≠ "java/lang/invoke/VarHandle" := by decide
theorem ln_Ch_forget : (parseMethodDescriptor y_Ch_forget.desc).map (fun d => d.parameters.length) = some 0 := by decide +kernel
theorem nh_Ch_boundIn : y_Ch_boundIn.cls ≠ "java/lang/invoke/MethodHandle" ∧ y_Ch_boundIn.cls ≠ "java/lang/invoke/VarHandle" := by decide
theorem ln_Ch_boundIn : (parseMethodDescriptor y_Ch_boundIn.desc).map (fun d => d.parameters.length) = some 2 := by decide +kernel
theorem nh_Ch_learn : y_Ch_learn.cls ≠ "java/lang/invoke/MethodHandle" ∧ y_Ch_learn.cls ≠ "java/lang/invoke/VarHandle" := by decide
theorem ln_Ch_learn : (parseMethodDescriptor y_Ch_learn.desc).map (fun d => d.parameters.length) = some 2 := by decide +kernel
theorem nh_Co_init : y_Co_init.cls ≠ "java/lang/invoke/MethodHandle" ∧ y_Co_init.cls ≠ "java/lang/invoke/VarHandle" := by decide
theorem ln_Co_init : (parseMethodDescriptor y_Co_init.desc).map (fun d => d.parameters.length) = some 1 := by decide +kernel
theorem nh_Co_choose : y_Co_choose.cls ≠ "java/lang/invoke/MethodHandle" ∧ y_Co_choose.cls ≠ "java/lang/invoke/VarHandle" := by decide
theorem ln_Co_choose : (parseMethodDescriptor y_Co_choose.desc).map (fun d => d.parameters.length) = some 3 := by decide +kernel
theorem nh_Co_findMatch : y_Co_findMatch.cls ≠ "java/lang/invoke/MethodHandle" ∧ y_Co_findMatch.cls ≠ "java/lang/invoke/VarHandle" := by decide
theorem ln_Co_findMatch : (parseMethodDescriptor y_Co_findMatch.desc).map (fun d => d.parameters.length) = some 2 := by decide +kernel
theorem nh_Co_findEcho : y_Co_findEcho.cls ≠ "java/lang/invoke/MethodHandle" ∧ y_Co_findEcho.cls ≠ "java/lang/invoke/VarHandle" := by decide
theorem ln_Co_findEcho : (parseMethodDescriptor y_Co_findEcho.desc).map (fun d => d.parameters.length) = some 3 := by decide +kernel
theorem nh_Co_agreeing : y_Co_agreeing.cls ≠ "java/lang/invoke/MethodHandle" ∧ y_Co_agreeing.cls ≠ "java/lang/invoke/VarHandle" := by decide
theorem ln_Co_agreeing : (parseMethodDescriptor y_Co_agreeing.desc).map (fun d => d.parameters.length) = some 3 := by decide +kernel
theorem nh_Fo_init : y_Fo_init.cls ≠ "java/lang/invoke/MethodHandle" ∧ y_Fo_init.cls ≠ "java/lang/invoke/VarHandle" := by decide
theorem ln_Fo_init : (parseMethodDescriptor y_Fo_init.desc).map (fun d => d.parameters.length) = some 0 := by decide +kernel
theorem nh_Fo_restart : y_Fo_restart.cls ≠ "java/lang/invoke/MethodHandle" ∧ y_Fo_restart.cls ≠ "java/lang/invoke/VarHandle" := by decide
theorem ln_Fo_restart : (parseMethodDescriptor y_Fo_restart.desc).map (fun d => d.parameters.length) = some 1 := by decide +kernel
theorem nh_Fo_readBit : y_Fo_readBit.cls ≠ "java/lang/invoke/MethodHandle" ∧ y_Fo_readBit.cls ≠ "java/lang/invoke/VarHandle" := by decide
theorem ln_Fo_readBit : (parseMethodDescriptor y_Fo_readBit.desc).map (fun d => d.parameters.length) = some 1 := by decide +kernel
theorem nh_Fo_readTree : y_Fo_readTree.cls ≠ "java/lang/invoke/MethodHandle" ∧ y_Fo_readTree.cls ≠ "java/lang/invoke/VarHandle" := by decide
theorem ln_Fo_readTree : (parseMethodDescriptor y_Fo_readTree.desc).map (fun d => d.parameters.length) = some 2 := by decide +kernel
theorem nh_Fo_readRow : y_Fo_readRow.cls ≠ "java/lang/invoke/MethodHandle" ∧ y_Fo_readRow.cls ≠ "java/lang/invoke/VarHandle" := by decide
theorem ln_Fo_readRow : (parseMethodDescriptor y_Fo_readRow.desc).map (fun d => d.parameters.length) = some 2 := by decide +kernel
theorem nh_Fo_refuseWhatIsLeft : y_Fo_refuseWhatIsLeft.cls ≠ "java/lang/invoke/MethodHandle" ∧ y_Fo_refuseWhatIsLeft.cls ≠ "java/lang/invoke/VarHandle" := by decide
theorem ln_Fo_refuseWhatIsLeft : (parseMethodDescriptor y_Fo_refuseWhatIsLeft.desc).map (fun d => d.parameters.length) = some 0 := by decide +kernel
theorem nh_Fo_takeByte : y_Fo_takeByte.cls ≠ "java/lang/invoke/MethodHandle" ∧ y_Fo_takeByte.cls ≠ "java/lang/invoke/VarHandle" := by decide
theorem ln_Fo_takeByte : (parseMethodDescriptor y_Fo_takeByte.desc).map (fun d => d.parameters.length) = some 0 := by decide +kernel
theorem nh_Hi_init : y_Hi_init.cls ≠ "java/lang/invoke/MethodHandle" ∧ y_Hi_init.cls ≠ "java/lang/invoke/VarHandle" := by decide
theorem ln_Hi_init : (parseMethodDescriptor y_Hi_init.desc).map (fun d => d.parameters.length) = some 0 := by decide +kernel
theorem nh_Hi_restart : y_Hi_restart.cls ≠ "java/lang/invoke/MethodHandle" ∧ y_Hi_restart.cls ≠ "java/lang/invoke/VarHandle" := by decide
theorem ln_Hi_restart : (parseMethodDescriptor y_Hi_restart.desc).map (fun d => d.parameters.length) = some 0 := by decide +kernel
theorem nh_Hi_tell : y_Hi_tell.cls ≠ "java/lang/invoke/MethodHandle" ∧ y_Hi_tell.cls ≠ "java/lang/invoke/VarHandle" := by decide
theorem ln_Hi_tell : (parseMethodDescriptor y_Hi_tell.desc).map (fun d => d.parameters.length) = some 1 := by decide +kernel
theorem nh_Hi_byteBefore : y_Hi_byteBefore.cls ≠ "java/lang/invoke/MethodHandle" ∧ y_Hi_byteBefore.cls ≠ "java/lang/invoke/VarHandle" := by decide
theorem ln_Hi_byteBefore : (parseMethodDescriptor y_Hi_byteBefore.desc).map (fun d => d.parameters.length) = some 1 := by decide +kernel
theorem nh_Hi_isBehindACopy : y_Hi_isBehindACopy.cls ≠ "java/lang/invoke/MethodHandle" ∧ y_Hi_isBehindACopy.cls ≠ "java/lang/invoke/VarHandle" := by decide
theorem ln_Hi_isBehindACopy : (parseMethodDescriptor y_Hi_isBehindACopy.desc).map (fun d => d.parameters.length) = some 0 := by decide +kernel
theorem nh_Hi_placeOfLiterals : y_Hi_placeOfLiterals.cls ≠ "java/lang/invoke/MethodHandle" ∧ y_Hi_placeOfLiterals.cls ≠ "java/lang/invoke/VarHandle" := by decide
theorem ln_Hi_placeOfLiterals : (parseMethodDescriptor y_Hi_placeOfLiterals.desc).map (fun d => d.parameters.length) = some 0 := by decide +kernel
theorem nh_Hi_repeat : y_Hi_repeat.cls ≠ "java/lang/invoke/MethodHandle" ∧ y_Hi_repeat.cls ≠ "java/lang/invoke/VarHandle" := by decide
theorem ln_Hi_repeat : (parseMethodDescriptor y_Hi_repeat.desc).map (fun d => d.parameters.length) = some 2 := by decide +kernel
theorem nh_Hi_bringToFront : y_Hi_bringToFront.cls ≠ "java/lang/invoke/MethodHandle" ∧ y_Hi_bringToFront.cls ≠ "java/lang/invoke/VarHandle" := by decide
theorem ln_Hi_bringToFront : (parseMethodDescriptor y_Hi_bringToFront.desc).map (fun d => d.parameters.length) = some 2 := by decide +kernel
theorem nh_Hi_stateBehind : y_Hi_stateBehind.cls ≠ "java/lang/invoke/MethodHandle" ∧ y_Hi_stateBehind.cls ≠ "java/lang/invoke/VarHandle" := by decide
theorem ln_Hi_stateBehind : (parseMethodDescriptor y_Hi_stateBehind.desc).map (fun d => d.parameters.length) = some 1 := by decide +kernel
theorem nh_Hi_stateBehindLiteral : y_Hi_stateBehindLiteral.cls ≠ "java/lang/invoke/MethodHandle" ∧ y_Hi_stateBehindLiteral.cls ≠ "java/lang/invoke/VarHandle" := by decide
theorem ln_Hi_stateBehindLiteral : (parseMethodDescriptor y_Hi_stateBehindLiteral.desc).map (fun d => d.parameters.length) = some 0 := by decide +kernel
theorem nh_Na_init : y_Na_init.cls ≠ "java/lang/invoke/MethodHandle" ∧ y_Na_init.cls ≠ "java/lang/invoke/VarHandle" := by decide
theorem ln_Na_init : (parseMethodDescriptor y_Na_init.desc).map (fun d => d.parameters.length) = some 0 := by decide +kernel
theorem nh_Na_restart : y_Na_restart.cls ≠ "java/lang/invoke/MethodHandle" ∧ y_Na_restart.cls ≠ "java/lang/invoke/VarHandle" := by decide
theorem ln_Na_restart : (parseMethodDescriptor y_Na_restart.desc).map (fun d => d.parameters.length) = some 0 := by decide +kernel
theorem nh_Na_fits : y_Na_fits.cls ≠ "java/lang/invoke/MethodHandle" ∧ y_Na_fits.cls ≠ "java/lang/invoke/VarHandle" := by decide
theorem ln_Na_fits : (parseMethodDescriptor y_Na_fits.desc).map (fun d => d.parameters.length) = some 0 := by decide +kernel
theorem nh_Na_writeBit : y_Na_writeBit.cls ≠ "java/lang/invoke/MethodHandle" ∧ y_Na_writeBit.cls ≠ "java/lang/invoke/VarHandle" := by decide
theorem ln_Na_writeBit : (parseMethodDescriptor y_Na_writeBit.desc).map (fun d => d.parameters.length) = some 2 := by decide +kernel
theorem nh_Na_writeTree : y_Na_writeTree.cls ≠ "java/lang/invoke/MethodHandle" ∧ y_Na_writeTree.cls ≠ "java/lang/invoke/VarHandle" := by decide
theorem ln_Na_writeTree : (parseMethodDescriptor y_Na_writeTree.desc).map (fun d => d.parameters.length) = some 3 := by decide +kernel
theorem nh_Na_writeRow : y_Na_writeRow.cls ≠ "java/lang/invoke/MethodHandle" ∧ y_Na_writeRow.cls ≠ "java/lang/invoke/VarHandle" := by decide
theorem ln_Na_writeRow : (parseMethodDescriptor y_Na_writeRow.desc).map (fun d => d.parameters.length) = some 3 := by decide +kernel
theorem nh_Na_raiseLow : y_Na_raiseLow.cls ≠ "java/lang/invoke/MethodHandle" ∧ y_Na_raiseLow.cls ≠ "java/lang/invoke/VarHandle" := by decide
theorem ln_Na_raiseLow : (parseMethodDescriptor y_Na_raiseLow.desc).map (fun d => d.parameters.length) = some 1 := by decide +kernel
theorem nh_Pa_init : y_Pa_init.cls ≠ "java/lang/invoke/MethodHandle" ∧ y_Pa_init.cls ≠ "java/lang/invoke/VarHandle" := by decide
theorem ln_Pa_init : (parseMethodDescriptor y_Pa_init.desc).map (fun d => d.parameters.length) = some 0 := by decide +kernel
theorem nh_Pa_becomeLiteral : y_Pa_becomeLiteral.cls ≠ "java/lang/invoke/MethodHandle" ∧ y_Pa_becomeLiteral.cls ≠ "java/lang/invoke/VarHandle" := by decide
theorem ln_Pa_becomeLiteral : (parseMethodDescriptor y_Pa_becomeLiteral.desc).map (fun d => d.parameters.length) = some 1 := by decide +kernel
theorem nh_Pa_becomeMatch : y_Pa_becomeMatch.cls ≠ "java/lang/invoke/MethodHandle" ∧ y_Pa_becomeMatch.cls ≠ "java/lang/invoke/VarHandle" := by decide
theorem ln_Pa_becomeMatch : (parseMethodDescriptor y_Pa_becomeMatch.desc).map (fun d => d.parameters.length) = some 2 := by decide +kernel
theorem nh_Pa_becomeEcho : y_Pa_becomeEcho.cls ≠ "java/lang/invoke/MethodHandle" ∧ y_Pa_becomeEcho.cls ≠ "java/lang/invoke/VarHandle" := by decide
theorem ln_Pa_becomeEcho : (parseMethodDescriptor y_Pa_becomeEcho.desc).map (fun d => d.parameters.length) = some 3 := by decide +kernel
theorem nh_Pa_becomeShort : y_Pa_becomeShort.cls ≠ "java/lang/invoke/MethodHandle" ∧ y_Pa_becomeShort.cls ≠ "java/lang/invoke/VarHandle" := by decide
theorem ln_Pa_becomeShort : (parseMethodDescriptor y_Pa_becomeShort.desc).map (fun d => d.parameters.length) = some 1 := by decide +kernel
theorem nh_Pa_becomeEnd : y_Pa_becomeEnd.cls ≠ "java/lang/invoke/MethodHandle" ∧ y_Pa_becomeEnd.cls ≠ "java/lang/invoke/VarHandle" := by decide
theorem ln_Pa_becomeEnd : (parseMethodDescriptor y_Pa_becomeEnd.desc).map (fun d => d.parameters.length) = some 0 := by decide +kernel
theorem nh_Pa_become : y_Pa_become.cls ≠ "java/lang/invoke/MethodHandle" ∧ y_Pa_become.cls ≠ "java/lang/invoke/VarHandle" := by decide
theorem ln_Pa_become : (parseMethodDescriptor y_Pa_become.desc).map (fun d => d.parameters.length) = some 3 := by decide +kernel
theorem nh_Pl_init : y_Pl_init.cls ≠ "java/lang/invoke/MethodHandle" ∧ y_Pl_init.cls ≠ "java/lang/invoke/VarHandle" := by decide
theorem ln_Pl_init : (parseMethodDescriptor y_Pl_init.desc).map (fun d => d.parameters.length) = some 0 := by decide +kernel
theorem nh_Pl_clear : y_Pl_clear.cls ≠ "java/lang/invoke/MethodHandle" ∧ y_Pl_clear.cls ≠ "java/lang/invoke/VarHandle" := by decide
theorem ln_Pl_clear : (parseMethodDescriptor y_Pl_clear.desc).map (fun d => d.parameters.length) = some 0 := by decide +kernel
theorem nh_Pl_append : y_Pl_append.cls ≠ "java/lang/invoke/MethodHandle" ∧ y_Pl_append.cls ≠ "java/lang/invoke/VarHandle" := by decide
theorem ln_Pl_append : (parseMethodDescriptor y_Pl_append.desc).map (fun d => d.parameters.length) = some 1 := by decide +kernel
theorem nh_Pl_tellOf : y_Pl_tellOf.cls ≠ "java/lang/invoke/MethodHandle" ∧ y_Pl_tellOf.cls ≠ "java/lang/invoke/VarHandle" := by decide
theorem ln_Pl_tellOf : (parseMethodDescriptor y_Pl_tellOf.desc).map (fun d => d.parameters.length) = some 2 := by decide +kernel
theorem nh_Re_init : y_Re_init.cls ≠ "java/lang/invoke/MethodHandle" ∧ y_Re_init.cls ≠ "java/lang/invoke/VarHandle" := by decide
theorem ln_Re_init : (parseMethodDescriptor y_Re_init.desc).map (fun d => d.parameters.length) = some 0 := by decide +kernel
theorem nh_Re_readPacket : y_Re_readPacket.cls ≠ "java/lang/invoke/MethodHandle" ∧ y_Re_readPacket.cls ≠ "java/lang/invoke/VarHandle" := by decide
theorem ln_Re_readPacket : (parseMethodDescriptor y_Re_readPacket.desc).map (fun d => d.parameters.length) = some 2 := by decide +kernel
theorem nh_Re_readLiteral : y_Re_readLiteral.cls ≠ "java/lang/invoke/MethodHandle" ∧ y_Re_readLiteral.cls ≠ "java/lang/invoke/VarHandle" := by decide
theorem ln_Re_readLiteral : (parseMethodDescriptor y_Re_readLiteral.desc).map (fun d => d.parameters.length) = some 1 := by decide +kernel
theorem nh_Re_readMatchOrEnd : y_Re_readMatchOrEnd.cls ≠ "java/lang/invoke/MethodHandle" ∧ y_Re_readMatchOrEnd.cls ≠ "java/lang/invoke/VarHandle" := by decide
theorem ln_Re_readMatchOrEnd : (parseMethodDescriptor y_Re_readMatchOrEnd.desc).map (fun d => d.parameters.length) = some 1 := by decide +kernel
theorem nh_Re_readDistance : y_Re_readDistance.cls ≠ "java/lang/invoke/MethodHandle" ∧ y_Re_readDistance.cls ≠ "java/lang/invoke/VarHandle" := by decide
theorem ln_Re_readDistance : (parseMethodDescriptor y_Re_readDistance.desc).map (fun d => d.parameters.length) = some 1 := by decide +kernel
theorem nh_Re_readRepeat : y_Re_readRepeat.cls ≠ "java/lang/invoke/MethodHandle" ∧ y_Re_readRepeat.cls ≠ "java/lang/invoke/VarHandle" := by decide
theorem ln_Re_readRepeat : (parseMethodDescriptor y_Re_readRepeat.desc).map (fun d => d.parameters.length) = some 3 := by decide +kernel
theorem nh_Re_readLength : y_Re_readLength.cls ≠ "java/lang/invoke/MethodHandle" ∧ y_Re_readLength.cls ≠ "java/lang/invoke/VarHandle" := by decide
theorem ln_Re_readLength : (parseMethodDescriptor y_Re_readLength.desc).map (fun d => d.parameters.length) = some 1 := by decide +kernel
theorem nh_Wr_init : y_Wr_init.cls ≠ "java/lang/invoke/MethodHandle" ∧ y_Wr_init.cls ≠ "java/lang/invoke/VarHandle" := by decide
theorem ln_Wr_init : (parseMethodDescriptor y_Wr_init.desc).map (fun d => d.parameters.length) = some 0 := by decide +kernel
theorem nh_Wr_writePacket : y_Wr_writePacket.cls ≠ "java/lang/invoke/MethodHandle" ∧ y_Wr_writePacket.cls ≠ "java/lang/invoke/VarHandle" := by decide
theorem ln_Wr_writePacket : (parseMethodDescriptor y_Wr_writePacket.desc).map (fun d => d.parameters.length) = some 2 := by decide +kernel
theorem nh_Wr_writeLiteral : y_Wr_writeLiteral.cls ≠ "java/lang/invoke/MethodHandle" ∧ y_Wr_writeLiteral.cls ≠ "java/lang/invoke/VarHandle" := by decide
theorem ln_Wr_writeLiteral : (parseMethodDescriptor y_Wr_writeLiteral.desc).map (fun d => d.parameters.length) = some 2 := by decide +kernel
theorem nh_Wr_writeMatch : y_Wr_writeMatch.cls ≠ "java/lang/invoke/MethodHandle" ∧ y_Wr_writeMatch.cls ≠ "java/lang/invoke/VarHandle" := by decide
theorem ln_Wr_writeMatch : (parseMethodDescriptor y_Wr_writeMatch.desc).map (fun d => d.parameters.length) = some 1 := by decide +kernel
theorem nh_Wr_writeEnd : y_Wr_writeEnd.cls ≠ "java/lang/invoke/MethodHandle" ∧ y_Wr_writeEnd.cls ≠ "java/lang/invoke/VarHandle" := by decide
theorem ln_Wr_writeEnd : (parseMethodDescriptor y_Wr_writeEnd.desc).map (fun d => d.parameters.length) = some 0 := by decide +kernel
theorem nh_Wr_writeRepeat : y_Wr_writeRepeat.cls ≠ "java/lang/invoke/MethodHandle" ∧ y_Wr_writeRepeat.cls ≠ "java/lang/invoke/VarHandle" := by decide
theorem ln_Wr_writeRepeat : (parseMethodDescriptor y_Wr_writeRepeat.desc).map (fun d => d.parameters.length) = some 2 := by decide +kernel
theorem nh_Wr_writeLength : y_Wr_writeLength.cls ≠ "java/lang/invoke/MethodHandle" ∧ y_Wr_writeLength.cls ≠ "java/lang/invoke/VarHandle" := by decide
theorem ln_Wr_writeLength : (parseMethodDescriptor y_Wr_writeLength.desc).map (fun d => d.parameters.length) = some 2 := by decide +kernel
theorem nh_Wr_bitsBelowHighest : y_Wr_bitsBelowHighest.cls ≠ "java/lang/invoke/MethodHandle" ∧ y_Wr_bitsBelowHighest.cls ≠ "java/lang/invoke/VarHandle" := by decide
theorem ln_Wr_bitsBelowHighest : (parseMethodDescriptor y_Wr_bitsBelowHighest.desc).map (fun d => d.parameters.length) = some 1 := by decide +kernel
theorem nh_La_cell : y_La_cell.cls ≠ "java/lang/invoke/MethodHandle" ∧ y_La_cell.cls ≠ "java/lang/invoke/VarHandle" := by decide
theorem ln_La_cell : (parseMethodDescriptor y_La_cell.desc).map (fun d => d.parameters.length) = some 2 := by decide +kernel
theorem nh_La_pack : y_La_pack.cls ≠ "java/lang/invoke/MethodHandle" ∧ y_La_pack.cls ≠ "java/lang/invoke/VarHandle" := by decide
theorem ln_La_pack : (parseMethodDescriptor y_La_pack.desc).map (fun d => d.parameters.length) = some 2 := by decide +kernel
theorem nh_La_put : y_La_put.cls ≠ "java/lang/invoke/MethodHandle" ∧ y_La_put.cls ≠ "java/lang/invoke/VarHandle" := by decide
theorem ln_La_put : (parseMethodDescriptor y_La_put.desc).map (fun d => d.parameters.length) = some 4 := by decide +kernel
theorem nh_La_cut : y_La_cut.cls ≠ "java/lang/invoke/MethodHandle" ∧ y_La_cut.cls ≠ "java/lang/invoke/VarHandle" := by decide
theorem ln_La_cut : (parseMethodDescriptor y_La_cut.desc).map (fun d => d.parameters.length) = some 3 := by decide +kernel
theorem nh_La_unpack : y_La_unpack.cls ≠ "java/lang/invoke/MethodHandle" ∧ y_La_unpack.cls ≠ "java/lang/invoke/VarHandle" := by decide
theorem ln_La_unpack : (parseMethodDescriptor y_La_unpack.desc).map (fun d => d.parameters.length) = some 2 := by decide +kernel
theorem nh_La_law : y_La_law.cls ≠ "java/lang/invoke/MethodHandle" ∧ y_La_law.cls ≠ "java/lang/invoke/VarHandle" := by decide
theorem ln_La_law : (parseMethodDescriptor y_La_law.desc).map (fun d => d.parameters.length) = some 1 := by decide +kernel
theorem nh_Ar_fill : y_Ar_fill.cls ≠ "java/lang/invoke/MethodHandle" ∧ y_Ar_fill.cls ≠ "java/lang/invoke/VarHandle" := by decide
theorem ln_Ar_fill : (parseMethodDescriptor y_Ar_fill.desc).map (fun d => d.parameters.length) = some 2 := by decide +kernel

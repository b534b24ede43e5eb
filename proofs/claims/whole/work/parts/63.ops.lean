/-! each call, of class and reference side by side -/
theorem lw_fg01 (h h9 : Nat → Nat) (n : Nat) : nI (sp_fg h h9 n) = nI 0 ∨ nI (sp_fg h h9 n) = nI 1 := by
  unfold sp_fg
  split
  · exact Or.inl rfl
  · exact Or.inr rfl
set_option maxHeartbeats 2000000 in
theorem lw_o_set (l : Launch) (D : va_G) (A : Nat → Prop) (hst : l.stackTraces = false) (hAu : ∀ a b, A a → a ≤ b → A b) {S : sT} (hO : st_ok S) {f : Nat → Int32} {g : Nat → Nat → Int32} (hR : st_mo S f g) (x y z : Int32) : ∃ (k : Nat) (a : Int32) (S1 : sT), k ≤ 3 ∧ st_ok S1 ∧ (∀ ad cf, RepX D S ad cf → lw_Cl l D A ad cf yX4_set (Cond.code yX4_set cX4_set 4 (some Jvm.ClassFile.FieldType.int)) [.ref (ad 0), .int x, .int y, .int z] lw_ex3 k a S1) ∧ (∀ ad cf0, lw_Mo l D A ad cf0 f g yX5_set (Cond.code yX5_set cX5_set 4 (some Jvm.ClassFile.FieldType.int)) [.ref (ad 1000020), .int x, .int y, .int z] k a S1) := by
  obtain ⟨⟨o1, o2, o3, o4, o5⟩, oP, oK, oD, oX, oC, oI⟩ := id hO
  have hK : ∀ j, j < 128 → sK S (sW S) j < 4 := fun j hj => oK (sW S) j o3 hj
  by_cases g1 : 0 ≤ x.toInt ∧ x.toInt < 16
  rotate_left
  · exact ⟨1, 0, S, by omega, hO, fun ad cf hX => lw_clT (d := 7) (by omega) (by omega) rfl hX (c_set_x1 l D A hst hX hO  (by omega)), fun ad cf0 => lw_moT (by omega) (by omega) hR (c_mset_1 l D A hR hO  (by omega))⟩
  obtain ⟨a, hn1, rfl⟩ := lw_nat (x := x) (n := 61) (by omega) (by omega)
  have h1 : a < 16 := by omega
  by_cases g2 : 0 ≤ y.toInt ∧ y.toInt < 8
  rotate_left
  · exact ⟨1, 0, S, by omega, hO, fun ad cf hX => lw_clT (d := 7) (by omega) (by omega) rfl hX (c_set_x2 l D A hst hX hO h1 (by omega)), fun ad cf0 => lw_moT (by omega) (by omega) hR (c_mset_2 l D A hR hO h1 (by omega))⟩
  obtain ⟨b, hn2, rfl⟩ := lw_nat (x := y) (n := 61) (by omega) (by omega)
  have h2 : b < 8 := by omega
  by_cases g3 : 0 ≤ z.toInt ∧ z.toInt ≤ 3
  rotate_left
  · exact ⟨2, 0, S, by omega, hO, fun ad cf hX => lw_clT (d := 7) (by omega) (by omega) rfl hX (c_set_x3 l D A hst hX hO h1 h2 (by omega)), fun ad cf0 => lw_moT (by omega) (by omega) hR (c_mset_3 l D A hR hO h1 h2 (by omega))⟩
  obtain ⟨k, hn3, rfl⟩ := lw_nat (x := z) (n := 61) (by omega) (by omega)
  have h3 : k < 4 := by omega
  by_cases h4 : sN S < 61
  rotate_left
  · exact ⟨3, 0, S, by omega, hO, fun ad cf hX => lw_clT (d := 7) (by omega) (by omega) rfl hX (c_set_x4 l D A hst hX hO h1 h2 h3 (by omega)), fun ad cf0 => lw_moT (by omega) (by omega) hR (c_mset_4 l D A hR hO h1 h2 h3 (by omega))⟩
  exact ⟨0, nI (sN S), st_new S (mi_un (sK S (sW S)) (8 * a + b) k), by omega, st_ok_new hO h4 (mi_un_lt hK h3), fun ad cf hX => lw_clM (d := 8) (mc := 3) (ms := 1131) ⟨by omega, by omega, by omega⟩ (c_set l D A hX hO hAu h1 h2 h3 h4), fun ad cf0 => lw_moO (by omega) (c_mset l D A hR hO h1 h2 h3 h4)⟩
set_option maxHeartbeats 2000000 in
theorem lw_o_raise (l : Launch) (D : va_G) (A : Nat → Prop) (hst : l.stackTraces = false) (hAu : ∀ a b, A a → a ≤ b → A b) {S : sT} (hO : st_ok S) {f : Nat → Int32} {g : Nat → Nat → Int32} (hR : st_mo S f g) (x y z : Int32) : ∃ (k : Nat) (a : Int32) (S1 : sT), k ≤ 3 ∧ st_ok S1 ∧ (∀ ad cf, RepX D S ad cf → lw_Cl l D A ad cf yX4_raise (Cond.code yX4_raise cX4_raise 5 (some Jvm.ClassFile.FieldType.int)) [.ref (ad 0), .int x, .int y, .int z] lw_ex3 k a S1) ∧ (∀ ad cf0, lw_Mo l D A ad cf0 f g yX5_raise (Cond.code yX5_raise cX5_raise 5 (some Jvm.ClassFile.FieldType.int)) [.ref (ad 1000020), .int x, .int y, .int z] k a S1) := by
  obtain ⟨⟨o1, o2, o3, o4, o5⟩, oP, oK, oD, oX, oC, oI⟩ := id hO
  have hK : ∀ j, j < 128 → sK S (sW S) j < 4 := fun j hj => oK (sW S) j o3 hj
  by_cases g1 : 0 ≤ x.toInt ∧ x.toInt < 16
  rotate_left
  · exact ⟨1, 0, S, by omega, hO, fun ad cf hX => lw_clT (d := 7) (by omega) (by omega) rfl hX (c_raise_x1 l D A hst hX hO  (by omega)), fun ad cf0 => lw_moT (by omega) (by omega) hR (c_mraise_1 l D A hR hO  (by omega))⟩
  obtain ⟨a, hn1, rfl⟩ := lw_nat (x := x) (n := 61) (by omega) (by omega)
  have h1 : a < 16 := by omega
  by_cases g2 : 0 ≤ y.toInt ∧ y.toInt ≤ 8
  rotate_left
  · exact ⟨2, 0, S, by omega, hO, fun ad cf hX => lw_clT (d := 7) (by omega) (by omega) rfl hX (c_raise_x2 l D A hst hX hO h1 (by omega)), fun ad cf0 => lw_moT (by omega) (by omega) hR (c_mraise_2 l D A hR hO h1 (by omega))⟩
  obtain ⟨b, hn2, rfl⟩ := lw_nat (x := y) (n := 61) (by omega) (by omega)
  have h2 : b ≤ 8 := by omega
  by_cases g3 : 1 ≤ z.toInt ∧ z.toInt ≤ 3
  rotate_left
  · exact ⟨2, 0, S, by omega, hO, fun ad cf hX => lw_clT (d := 7) (by omega) (by omega) rfl hX (c_raise_x3 l D A hst hX hO h1 h2 (by omega)), fun ad cf0 => lw_moT (by omega) (by omega) hR (c_mraise_3 l D A hR hO h1 h2 (by omega))⟩
  obtain ⟨k, hn3, rfl⟩ := lw_nat (x := z) (n := 61) (by omega) (by omega)
  have h3 : 1 ≤ k ∧ k < 4 := by omega
  by_cases h4 : sN S < 61
  rotate_left
  · exact ⟨3, 0, S, by omega, hO, fun ad cf hX => lw_clT (d := 7) (by omega) (by omega) rfl hX (c_raise_x4 l D A hst hX hO h1 h2 h3.1 h3.2 (by omega)), fun ad cf0 => lw_moT (by omega) (by omega) hR (c_mraise_4 l D A hR hO h1 h2 h3.1 h3.2 (by omega))⟩
  exact ⟨0, nI (sN S), st_new S (sp_ra (sK S (sW S)) a b k 8), by omega, st_ok_new hO h4 (sp_ra_lt hK h3.2), fun ad cf hX => lw_clM (d := 8) (mc := 3) (ms := 1131) ⟨by omega, by omega, by omega⟩ (c_raise l D A hX hO hAu h1 h2 h3.1 h3.2 h4), fun ad cf0 => lw_moO (by omega) (c_mraise l D A hR hO h1 h2 h3.1 h3.2 h4)⟩
set_option maxHeartbeats 2000000 in
theorem lw_o_layer (l : Launch) (D : va_G) (A : Nat → Prop) (hst : l.stackTraces = false) (hAu : ∀ a b, A a → a ≤ b → A b) {S : sT} (hO : st_ok S) {f : Nat → Int32} {g : Nat → Nat → Int32} (hR : st_mo S f g) (x y : Int32) : ∃ (k : Nat) (a : Int32) (S1 : sT), k ≤ 3 ∧ st_ok S1 ∧ (∀ ad cf, RepX D S ad cf → lw_Cl l D A ad cf yX4_layer (Cond.code yX4_layer cX4_layer 4 (some Jvm.ClassFile.FieldType.int)) [.ref (ad 0), .int x, .int y] lw_ex3 k a S1) ∧ (∀ ad cf0, lw_Mo l D A ad cf0 f g yX5_layer (Cond.code yX5_layer cX5_layer 4 (some Jvm.ClassFile.FieldType.int)) [.ref (ad 1000020), .int x, .int y] k a S1) := by
  obtain ⟨⟨o1, o2, o3, o4, o5⟩, oP, oK, oD, oX, oC, oI⟩ := id hO
  have hK : ∀ j, j < 128 → sK S (sW S) j < 4 := fun j hj => oK (sW S) j o3 hj
  by_cases g1 : 0 ≤ x.toInt ∧ x.toInt < 8
  rotate_left
  · exact ⟨1, 0, S, by omega, hO, fun ad cf hX => lw_clT (d := 7) (by omega) (by omega) rfl hX (c_layer_x1 l D A hst hX hO  (by omega)), fun ad cf0 => lw_moT (by omega) (by omega) hR (c_mlayer_1 l D A hR hO  (by omega))⟩
  obtain ⟨b, hn1, rfl⟩ := lw_nat (x := x) (n := 61) (by omega) (by omega)
  have h1 : b < 8 := by omega
  by_cases g2 : 0 ≤ y.toInt ∧ y.toInt ≤ 3
  rotate_left
  · exact ⟨2, 0, S, by omega, hO, fun ad cf hX => lw_clT (d := 7) (by omega) (by omega) rfl hX (c_layer_x2 l D A hst hX hO h1 (by omega)), fun ad cf0 => lw_moT (by omega) (by omega) hR (c_mlayer_2 l D A hR hO h1 (by omega))⟩
  obtain ⟨k, hn2, rfl⟩ := lw_nat (x := y) (n := 61) (by omega) (by omega)
  have h2 : k < 4 := by omega
  by_cases h3 : sN S < 61
  rotate_left
  · exact ⟨3, 0, S, by omega, hO, fun ad cf hX => lw_clT (d := 7) (by omega) (by omega) rfl hX (c_layer_x3 l D A hst hX hO h1 h2 (by omega)), fun ad cf0 => lw_moT (by omega) (by omega) hR (c_mlayer_3 l D A hR hO h1 h2 (by omega))⟩
  exact ⟨0, nI (sN S), st_new S (sp_la (sK S (sW S)) b k 16), by omega, st_ok_new hO h3 (sp_la_lt hK h2), fun ad cf hX => lw_clM (d := 8) (mc := 3) (ms := 1131) ⟨by omega, by omega, by omega⟩ (c_layer l D A hX hO hAu h1 h2 h3), fun ad cf0 => lw_moO (by omega) (c_mlayer l D A hR hO h1 h2 h3)⟩
set_option maxHeartbeats 2000000 in
theorem lw_o_kind (l : Launch) (D : va_G) (A : Nat → Prop) (hst : l.stackTraces = false) (hAu : ∀ a b, A a → a ≤ b → A b) {S : sT} (hO : st_ok S) {f : Nat → Int32} {g : Nat → Nat → Int32} (hR : st_mo S f g) (x y : Int32) : ∃ (k : Nat) (a : Int32) (S1 : sT), k ≤ 1 ∧ st_ok S1 ∧ (∀ ad cf, RepX D S ad cf → lw_Cl l D A ad cf yX4_kind (Cond.code yX4_kind cX4_kind 3 (some Jvm.ClassFile.FieldType.int)) [.ref (ad 0), .int x, .int y] lw_exO k a S1) ∧ (∀ ad cf0, lw_Mo l D A ad cf0 f g yX5_kind (Cond.code yX5_kind cX5_kind 3 (some Jvm.ClassFile.FieldType.int)) [.ref (ad 1000020), .int x, .int y] k a S1) := by
  obtain ⟨⟨o1, o2, o3, o4, o5⟩, oP, oK, oD, oX, oC, oI⟩ := id hO
  have hK : ∀ j, j < 128 → sK S (sW S) j < 4 := fun j hj => oK (sW S) j o3 hj
  by_cases g1 : 0 ≤ x.toInt ∧ x.toInt < 16
  rotate_left
  · exact ⟨1, 0, S, by omega, hO, fun ad cf hX => lw_clT (d := 7) (by omega) (by omega) rfl hX (c_kind_x1 l D A hst hX hO  (by omega)), fun ad cf0 => lw_moT (by omega) (by omega) hR (c_mkind_1 l D A hR hO  (by omega))⟩
  obtain ⟨a, hn1, rfl⟩ := lw_nat (x := x) (n := 61) (by omega) (by omega)
  have h1 : a < 16 := by omega
  by_cases g2 : 0 ≤ y.toInt ∧ y.toInt < 8
  rotate_left
  · exact ⟨1, 0, S, by omega, hO, fun ad cf hX => lw_clT (d := 7) (by omega) (by omega) rfl hX (c_kind_x2 l D A hst hX hO h1 (by omega)), fun ad cf0 => lw_moT (by omega) (by omega) hR (c_mkind_2 l D A hR hO h1 (by omega))⟩
  obtain ⟨b, hn2, rfl⟩ := lw_nat (x := y) (n := 61) (by omega) (by omega)
  have h2 : b < 8 := by omega
  exact ⟨0, nI (sK S (sW S) (8 * a + b)), S, by omega, hO, fun ad cf hX => lw_clR (d := 2) (by omega) hX (c_kind l D A hX hO h1 h2), fun ad cf0 => lw_moO (by omega) (c_mkind l D A hR hO h1 h2)⟩
set_option maxHeartbeats 2000000 in
theorem lw_o_runs (l : Launch) (D : va_G) (A : Nat → Prop) (hst : l.stackTraces = false) (hAu : ∀ a b, A a → a ≤ b → A b) {S : sT} (hO : st_ok S) {f : Nat → Int32} {g : Nat → Nat → Int32} (hR : st_mo S f g) (x : Int32) : ∃ (k : Nat) (a : Int32) (S1 : sT), k ≤ 1 ∧ st_ok S1 ∧ (∀ ad cf, RepX D S ad cf → lw_Cl l D A ad cf yX4_runs (Cond.code yX4_runs cX4_runs 2 (some Jvm.ClassFile.FieldType.int)) [.ref (ad 0), .int x] lw_exO k a S1) ∧ (∀ ad cf0, lw_Mo l D A ad cf0 f g yX5_runs (Cond.code yX5_runs cX5_runs 2 (some Jvm.ClassFile.FieldType.int)) [.ref (ad 1000020), .int x] k a S1) := by
  obtain ⟨⟨o1, o2, o3, o4, o5⟩, oP, oK, oD, oX, oC, oI⟩ := id hO
  have hK : ∀ j, j < 128 → sK S (sW S) j < 4 := fun j hj => oK (sW S) j o3 hj
  by_cases g1 : 0 ≤ x.toInt ∧ x.toInt < 16
  rotate_left
  · exact ⟨1, 0, S, by omega, hO, fun ad cf hX => lw_clT (d := 7) (by omega) (by omega) rfl hX (c_runs_x1 l D A hst hX hO  (by omega)), fun ad cf0 => lw_moT (by omega) (by omega) hR (c_mruns_1 l D A hR hO  (by omega))⟩
  obtain ⟨a, hn1, rfl⟩ := lw_nat (x := x) (n := 61) (by omega) (by omega)
  have h1 : a < 16 := by omega
  exact ⟨0, nI (sp_runs (sK S (sW S)) a), S, by omega, hO, fun ad cf hX => lw_clR (d := 4) (by omega) hX (c_runs l D A hX hO h1), fun ad cf0 => lw_moO (by omega) (c_mruns l D A hR hO h1)⟩
set_option maxHeartbeats 2000000 in
theorem lw_o_runLength (l : Launch) (D : va_G) (A : Nat → Prop) (hst : l.stackTraces = false) (hAu : ∀ a b, A a → a ≤ b → A b) {S : sT} (hO : st_ok S) {f : Nat → Int32} {g : Nat → Nat → Int32} (hR : st_mo S f g) (x y : Int32) : ∃ (k : Nat) (a : Int32) (S1 : sT), k ≤ 1 ∧ st_ok S1 ∧ (∀ ad cf, RepX D S ad cf → lw_Cl l D A ad cf yX4_runLength (Cond.code yX4_runLength cX4_runLength 3 (some Jvm.ClassFile.FieldType.int)) [.ref (ad 0), .int x, .int y] lw_exO k a S1) ∧ (∀ ad cf0, lw_Mo l D A ad cf0 f g yX5_runLength (Cond.code yX5_runLength cX5_runLength 6 (some Jvm.ClassFile.FieldType.int)) [.ref (ad 1000020), .int x, .int y] k a S1) := by
  obtain ⟨⟨o1, o2, o3, o4, o5⟩, oP, oK, oD, oX, oC, oI⟩ := id hO
  have hK : ∀ j, j < 128 → sK S (sW S) j < 4 := fun j hj => oK (sW S) j o3 hj
  by_cases g1 : 0 ≤ x.toInt ∧ x.toInt < 16
  rotate_left
  · exact ⟨1, 0, S, by omega, hO, fun ad cf hX => lw_clT (d := 7) (by omega) (by omega) rfl hX (c_runLength_x1 l D A hst hX hO  (by omega)), fun ad cf0 => lw_moT (by omega) (by omega) hR (c_mrunLength_1 l D A hR hO  (by omega))⟩
  obtain ⟨a, hn1, rfl⟩ := lw_nat (x := x) (n := 61) (by omega) (by omega)
  have h1 : a < 16 := by omega
  have hb9 : sp_runs (sK S (sW S)) a ≤ 8 := by have := sp_ri_le (sK S (sW S)) a 7; unfold sp_runs; omega
  by_cases g2 : 0 ≤ y.toInt ∧ y.toInt < (sp_runs (sK S (sW S)) a : Nat)
  rotate_left
  · exact ⟨1, 0, S, by omega, hO, fun ad cf hX => lw_clT (d := 7) (by omega) (by omega) rfl hX (c_runLength_x2 l D A hst hX hO h1 (by omega)), fun ad cf0 => lw_moT (by omega) (by omega) hR (c_mrunLength_2 l D A hR hO h1 (by omega))⟩
  obtain ⟨u, hn2, rfl⟩ := lw_nat (x := y) (n := sp_runs (sK S (sW S)) a) (by omega) (by omega)
  have h2 : u < sp_runs (sK S (sW S)) a := by omega
  exact ⟨0, nI (sp_rl (sK S (sW S)) a u), S, by omega, hO, fun ad cf hX => lw_clR (d := 4) (by omega) hX (c_runLength l D A hX hO h1 h2), fun ad cf0 => lw_moO (by omega) (c_mrunLength l D A hR hO h1 h2)⟩
set_option maxHeartbeats 2000000 in
theorem lw_o_height (l : Launch) (D : va_G) (A : Nat → Prop) (hst : l.stackTraces = false) (hAu : ∀ a b, A a → a ≤ b → A b) {S : sT} (hO : st_ok S) {f : Nat → Int32} {g : Nat → Nat → Int32} (hR : st_mo S f g) (x : Int32) : ∃ (k : Nat) (a : Int32) (S1 : sT), k ≤ 1 ∧ st_ok S1 ∧ (∀ ad cf, RepX D S ad cf → lw_Cl l D A ad cf yX4_height (Cond.code yX4_height cX4_height 2 (some Jvm.ClassFile.FieldType.int)) [.ref (ad 0), .int x] lw_exO k a S1) ∧ (∀ ad cf0, lw_Mo l D A ad cf0 f g yX5_height (Cond.code yX5_height cX5_height 2 (some Jvm.ClassFile.FieldType.int)) [.ref (ad 1000020), .int x] k a S1) := by
  obtain ⟨⟨o1, o2, o3, o4, o5⟩, oP, oK, oD, oX, oC, oI⟩ := id hO
  have hK : ∀ j, j < 128 → sK S (sW S) j < 4 := fun j hj => oK (sW S) j o3 hj
  by_cases g1 : 0 ≤ x.toInt ∧ x.toInt < 16
  rotate_left
  · exact ⟨1, 0, S, by omega, hO, fun ad cf hX => lw_clT (d := 7) (by omega) (by omega) rfl hX (c_height_x1 l D A hst hX hO  (by omega)), fun ad cf0 => lw_moT (by omega) (by omega) hR (c_mheight_1 l D A hR hO  (by omega))⟩
  obtain ⟨a, hn1, rfl⟩ := lw_nat (x := x) (n := 61) (by omega) (by omega)
  have h1 : a < 16 := by omega
  exact ⟨0, nI (sp_h (sK S (sW S)) a 8), S, by omega, hO, fun ad cf hX => lw_clR (d := 3) (by omega) hX (c_height l D A hX hO h1), fun ad cf0 => lw_moO (by omega) (c_mheight l D A hR hO h1)⟩
set_option maxHeartbeats 2000000 in
theorem lw_o_visit (l : Launch) (D : va_G) (A : Nat → Prop) (hst : l.stackTraces = false) (hAu : ∀ a b, A a → a ≤ b → A b) {S : sT} (hO : st_ok S) {f : Nat → Int32} {g : Nat → Nat → Int32} (hR : st_mo S f g) (x : Int32) : ∃ (k : Nat) (a : Int32) (S1 : sT), k ≤ 1 ∧ st_ok S1 ∧ (∀ ad cf, RepX D S ad cf → lw_Cl l D A ad cf yX4_visit (Cond.code yX4_visit cX4_visit 3 (some Jvm.ClassFile.FieldType.int)) [.ref (ad 0), .int x] lw_exO k a S1) ∧ (∀ ad cf0, lw_Mo l D A ad cf0 f g yX5_visit (Cond.code yX5_visit cX5_visit 3 (some Jvm.ClassFile.FieldType.int)) [.ref (ad 1000020), .int x] k a S1) := by
  obtain ⟨⟨o1, o2, o3, o4, o5⟩, oP, oK, oD, oX, oC, oI⟩ := id hO
  have hK : ∀ j, j < 128 → sK S (sW S) j < 4 := fun j hj => oK (sW S) j o3 hj
  by_cases g1 : 0 ≤ x.toInt ∧ x.toInt < (sN S : Nat)
  rotate_left
  · exact ⟨1, 0, S, by omega, hO, fun ad cf hX => lw_clT (d := 7) (by omega) (by omega) rfl hX (c_visit_x1 l D A hst hX hO  (by omega)), fun ad cf0 => lw_moT (by omega) (by omega) hR (c_mvisit_1 l D A hR hO  (by omega))⟩
  obtain ⟨a, hn1, rfl⟩ := lw_nat (x := x) (n := sN S) (by omega) (by omega)
  have h1 : a < sN S := by omega
  exact ⟨0, nI (sW S), st_now S a, by omega, st_ok_now hO h1, fun ad cf hX => lw_clM (d := 3) (mc := 0) (ms := 0) ⟨by omega, by omega, by omega⟩ (c_visit l D A hX hO h1), fun ad cf0 => lw_moO (by omega) (c_mvisit l D A hR hO h1)⟩
set_option maxHeartbeats 2000000 in
theorem lw_o_undo (l : Launch) (D : va_G) (A : Nat → Prop) (hst : l.stackTraces = false) (hAu : ∀ a b, A a → a ≤ b → A b) {S : sT} (hO : st_ok S) {f : Nat → Int32} {g : Nat → Nat → Int32} (hR : st_mo S f g) : ∃ (k : Nat) (a : Int32) (S1 : sT), k ≤ 1 ∧ st_ok S1 ∧ (∀ ad cf, RepX D S ad cf → lw_Cl l D A ad cf yX4_undo (Cond.code yX4_undo cX4_undo 2 (some Jvm.ClassFile.FieldType.int)) [.ref (ad 0)] lw_exS k a S1) ∧ (∀ ad cf0, lw_Mo l D A ad cf0 f g yX5_undo (Cond.code yX5_undo cX5_undo 1 (some Jvm.ClassFile.FieldType.int)) [.ref (ad 1000020)] k a S1) := by
  obtain ⟨⟨o1, o2, o3, o4, o5⟩, oP, oK, oD, oX, oC, oI⟩ := id hO
  have hK : ∀ j, j < 128 → sK S (sW S) j < 4 := fun j hj => oK (sW S) j o3 hj
  by_cases h1 : sW S ≠ 0
  rotate_left
  · exact ⟨1, 0, S, by omega, hO, fun ad cf hX => lw_clT (d := 6) (by omega) (by omega) rfl hX (c_undo_x1 l D A hst hX hO  (by omega)), fun ad cf0 => lw_moT (by omega) (by omega) hR (c_mundo_1 l D A hR hO  (by omega))⟩
  exact ⟨0, nI (sP S (sW S)), st_now S (sP S (sW S)), by omega, st_ok_now hO (Nat.lt_trans (oP (sW S) (by omega) o3) o3), fun ad cf hX => lw_clM (d := 0) (mc := 0) (ms := 0) ⟨by omega, by omega, by omega⟩ (c_undo l D A hX hO h1), fun ad cf0 => lw_moO (by omega) (c_mundo l D A hR hO h1)⟩
set_option maxHeartbeats 2000000 in
theorem lw_o_redo (l : Launch) (D : va_G) (A : Nat → Prop) (hst : l.stackTraces = false) (hAu : ∀ a b, A a → a ≤ b → A b) {S : sT} (hO : st_ok S) {f : Nat → Int32} {g : Nat → Nat → Int32} (hR : st_mo S f g) (x : Int32) : ∃ (k : Nat) (a : Int32) (S1 : sT), k ≤ 1 ∧ st_ok S1 ∧ (∀ ad cf, RepX D S ad cf → lw_Cl l D A ad cf yX4_redo (Cond.code yX4_redo cX4_redo 3 (some Jvm.ClassFile.FieldType.int)) [.ref (ad 0), .int x] lw_exO k a S1) ∧ (∀ ad cf0, lw_Mo l D A ad cf0 f g yX5_redo (Cond.code yX5_redo cX5_redo 6 (some Jvm.ClassFile.FieldType.int)) [.ref (ad 1000020), .int x] k a S1) := by
  obtain ⟨⟨o1, o2, o3, o4, o5⟩, oP, oK, oD, oX, oC, oI⟩ := id hO
  have hK : ∀ j, j < 128 → sK S (sW S) j < 4 := fun j hj => oK (sW S) j o3 hj
  have hb9 := sp_br_le S (sW S) (sN S)
  by_cases g1 : 0 ≤ x.toInt ∧ x.toInt < (sp_br S (sW S) (sN S) : Nat)
  rotate_left
  · exact ⟨1, 0, S, by omega, hO, fun ad cf hX => lw_clT (d := 6) (by omega) (by omega) rfl hX (c_redo_x1 l D A hst hX hO  (by omega)), fun ad cf0 => lw_moT (by omega) (by omega) hR (c_mredo_1 l D A hR hO  (by omega))⟩
  obtain ⟨b, hn1, rfl⟩ := lw_nat (x := x) (n := sp_br S (sW S) (sN S)) (by omega) (by omega)
  have h1 : b < sp_br S (sW S) (sN S) := by omega
  exact ⟨0, nI (sp_fd S (sW S) b (sN S)), st_now S (sp_fd S (sW S) b (sN S)), by omega, st_ok_now hO (sp_fd_lt (S := S) (b := b) o3 (sN S) (Nat.le_refl _)), fun ad cf hX => lw_clM (d := 4) (mc := 0) (ms := 0) ⟨by omega, by omega, by omega⟩ (c_redo l D A hX hO h1), fun ad cf0 => lw_moO (by omega) (c_mredo l D A hR hO h1)⟩
set_option maxHeartbeats 2000000 in
theorem lw_o_unlike (l : Launch) (D : va_G) (A : Nat → Prop) (hst : l.stackTraces = false) (hAu : ∀ a b, A a → a ≤ b → A b) {S : sT} (hO : st_ok S) {f : Nat → Int32} {g : Nat → Nat → Int32} (hR : st_mo S f g) (x y : Int32) : ∃ (k : Nat) (a : Int32) (S1 : sT), k ≤ 1 ∧ st_ok S1 ∧ (∀ ad cf, RepX D S ad cf → lw_Cl l D A ad cf yX4_unlike (Cond.code yX4_unlike cX4_unlike 7 (some Jvm.ClassFile.FieldType.int)) [.ref (ad 0), .int x, .int y] lw_exO k a S1) ∧ (∀ ad cf0, lw_Mo l D A ad cf0 f g yX5_unlike (Cond.code yX5_unlike cX5_unlike 5 (some Jvm.ClassFile.FieldType.int)) [.ref (ad 1000020), .int x, .int y] k a S1) := by
  obtain ⟨⟨o1, o2, o3, o4, o5⟩, oP, oK, oD, oX, oC, oI⟩ := id hO
  have hK : ∀ j, j < 128 → sK S (sW S) j < 4 := fun j hj => oK (sW S) j o3 hj
  by_cases g1 : 0 ≤ x.toInt ∧ x.toInt < (sN S : Nat)
  rotate_left
  · exact ⟨1, 0, S, by omega, hO, fun ad cf hX => lw_clT (d := 7) (by omega) (by omega) rfl hX (c_unlike_x1 l D A hst hX hO  (by omega)), fun ad cf0 => lw_moT (by omega) (by omega) hR (c_munlike_1 l D A hR hO  (by omega))⟩
  obtain ⟨a, hn1, rfl⟩ := lw_nat (x := x) (n := sN S) (by omega) (by omega)
  have h1 : a < sN S := by omega
  by_cases g2 : 0 ≤ y.toInt ∧ y.toInt < (sN S : Nat)
  rotate_left
  · exact ⟨1, 0, S, by omega, hO, fun ad cf hX => lw_clT (d := 7) (by omega) (by omega) rfl hX (c_unlike_x2 l D A hst hX hO h1 (by omega)), fun ad cf0 => lw_moT (by omega) (by omega) hR (c_munlike_2 l D A hR hO h1 (by omega))⟩
  obtain ⟨b, hn2, rfl⟩ := lw_nat (x := y) (n := sN S) (by omega) (by omega)
  have h2 : b < sN S := by omega
  exact ⟨0, nI (sp_ul S a b 16), S, by omega, hO, fun ad cf hX => lw_clR (d := 3) (by omega) hX (c_unlike l D A hX hO h1 h2), fun ad cf0 => lw_moO (by omega) (c_munlike l D A hR hO h1 h2)⟩
set_option maxHeartbeats 2000000 in
theorem lw_o_strike (l : Launch) (D : va_G) (A : Nat → Prop) (hst : l.stackTraces = false) (hAu : ∀ a b, A a → a ≤ b → A b) {S : sT} (hO : st_ok S) {f : Nat → Int32} {g : Nat → Nat → Int32} (hR : st_mo S f g) (x : Int32) : ∃ (k : Nat) (a : Int32) (S1 : sT), k ≤ 2 ∧ st_ok S1 ∧ (∀ ad cf, RepX D S ad cf → lw_Cl l D A ad cf yX4_strike (Cond.code yX4_strike cX4_strike 2 (some Jvm.ClassFile.FieldType.int)) [.ref (ad 0), .int x] lw_ex2 k a S1) ∧ (∀ ad cf0, lw_Mo l D A ad cf0 f g yX5_strike (Cond.code yX5_strike cX5_strike 4 (some Jvm.ClassFile.FieldType.int)) [.ref (ad 1000020), .int x] k a S1) := by
  obtain ⟨⟨o1, o2, o3, o4, o5⟩, oP, oK, oD, oX, oC, oI⟩ := id hO
  have hK : ∀ j, j < 128 → sK S (sW S) j < 4 := fun j hj => oK (sW S) j o3 hj
  by_cases g1 : 0 ≤ x.toInt ∧ x.toInt < (sD S : Nat)
  rotate_left
  · exact ⟨1, 0, S, by omega, hO, fun ad cf hX => lw_clT (d := 7) (by omega) (by omega) rfl hX (c_strike_x1 l D A hst hX hO  (by omega)), fun ad cf0 => lw_moT (by omega) (by omega) hR (c_mstrike_1 l D A hR hO  (by omega))⟩
  obtain ⟨d, hn1, rfl⟩ := lw_nat (x := x) (n := sD S) (by omega) (by omega)
  have h1 : d < sD S := by omega
  by_cases h2 : sC S < 60
  rotate_left
  · exact ⟨2, 0, S, by omega, hO, fun ad cf hX => lw_clT (d := 7) (by omega) (by omega) rfl hX (c_strike_x2 l D A hst hX hO h1 (by omega)), fun ad cf0 => lw_moT (by omega) (by omega) hR (c_mstrike_2 l D A hR hO h1 (by omega))⟩
  exact ⟨0, nI (sC S), st_strike S d, by omega, st_ok_strike hO h2 h1, fun ad cf hX => lw_clM (d := 8) (mc := 4) (ms := 2019) ⟨by omega, by omega, by omega⟩ (c_strike l D A hX hO hAu h1 h2), fun ad cf0 => lw_moO (by omega) (c_mstrike l D A hR hO h1 h2)⟩
set_option maxHeartbeats 2000000 in
theorem lw_o_forge (l : Launch) (D : va_G) (A : Nat → Prop) (hst : l.stackTraces = false) (hAu : ∀ a b, A a → a ≤ b → A b) {S : sT} (hO : st_ok S) {f : Nat → Int32} {g : Nat → Nat → Int32} (hR : st_mo S f g) (x y z : Int32) : ∃ (k : Nat) (a : Int32) (S1 : sT), k ≤ 3 ∧ st_ok S1 ∧ (∀ ad cf, RepX D S ad cf → lw_Cl l D A ad cf yX4_forge (Cond.code yX4_forge cX4_forge 6 (some Jvm.ClassFile.FieldType.int)) [.ref (ad 0), .int x, .int y, .int z] lw_ex3 k a S1) ∧ (∀ ad cf0, lw_Mo l D A ad cf0 f g yX5_forge (Cond.code yX5_forge cX5_forge 5 (some Jvm.ClassFile.FieldType.int)) [.ref (ad 1000020), .int x, .int y, .int z] k a S1) := by
  obtain ⟨⟨o1, o2, o3, o4, o5⟩, oP, oK, oD, oX, oC, oI⟩ := id hO
  have hK : ∀ j, j < 128 → sK S (sW S) j < 4 := fun j hj => oK (sW S) j o3 hj
  by_cases g1 : 0 ≤ x.toInt ∧ x.toInt < (sC S : Nat)
  rotate_left
  · exact ⟨1, 0, S, by omega, hO, fun ad cf hX => lw_clT (d := 7) (by omega) (by omega) rfl hX (c_forge_x1 l D A hst hX hO  (by omega)), fun ad cf0 => lw_moT (by omega) (by omega) hR (c_mforge_1 l D A hR hO  (by omega))⟩
  obtain ⟨a, hn1, rfl⟩ := lw_nat (x := x) (n := sC S) (by omega) (by omega)
  have h1 : a < sC S := by omega
  by_cases g2 : 0 ≤ y.toInt ∧ y.toInt < (sD S : Nat)
  rotate_left
  · exact ⟨1, 0, S, by omega, hO, fun ad cf hX => lw_clT (d := 7) (by omega) (by omega) rfl hX (c_forge_x2 l D A hst hX hO h1 (by omega)), fun ad cf0 => lw_moT (by omega) (by omega) hR (c_mforge_2 l D A hR hO h1 (by omega))⟩
  obtain ⟨d, hn2, rfl⟩ := lw_nat (x := y) (n := sD S) (by omega) (by omega)
  have h2 : d < sD S := by omega
  by_cases g3 : 1 ≤ z.toInt ∧ z.toInt ≤ 60
  rotate_left
  · exact ⟨2, 0, S, by omega, hO, fun ad cf hX => lw_clT (d := 7) (by omega) (by omega) rfl hX (c_forge_x3 l D A hst hX hO h1 h2 (by omega)), fun ad cf0 => lw_moT (by omega) (by omega) hR (c_mforge_3 l D A hR hO h1 h2 (by omega))⟩
  obtain ⟨u, hn3, rfl⟩ := lw_nat (x := z) (n := 61) (by omega) (by omega)
  have h3 : 1 ≤ u ∧ u ≤ 60 := by omega
  by_cases h4 : sC S < 60
  rotate_left
  · exact ⟨3, 0, S, by omega, hO, fun ad cf hX => lw_clT (d := 7) (by omega) (by omega) rfl hX (c_forge_x4 l D A hst hX hO h1 h2 h3.1 h3.2 (by omega)), fun ad cf0 => lw_moT (by omega) (by omega) hR (c_mforge_4 l D A hR hO h1 h2 h3.1 h3.2 (by omega))⟩
  by_cases h5 : u ≤ sX S d
  rotate_left
  · exact ⟨3, 0, S, by omega, hO, fun ad cf hX => lw_clT (d := 7) (by omega) (by omega) rfl hX (c_forge_x5 l D A hst hX hO h1 h2 (by omega) h3.2 h4), fun ad cf0 => lw_moT (by omega) (by omega) hR (c_mforge_5 l D A hR hO h1 h2 (by omega) h3.2 h4)⟩
  exact ⟨0, nI (sC S), st_forge S a d u, by omega, st_ok_coin hO h4 h2 ⟨h3.1, h5⟩ (fun c hc => oC a c h1 hc), fun ad cf hX => lw_clM (d := 8) (mc := 2) (ms := 1003) ⟨by omega, by omega, by omega⟩ (c_forge l D A hX hO hAu h1 h2 h3.1 h5 h4), fun ad cf0 => lw_moO (by omega) (c_mforge l D A hR hO h1 h2 h3.1 h5 h4)⟩
set_option maxHeartbeats 2000000 in
theorem lw_o_dieHeight (l : Launch) (D : va_G) (A : Nat → Prop) (hst : l.stackTraces = false) (hAu : ∀ a b, A a → a ≤ b → A b) {S : sT} (hO : st_ok S) {f : Nat → Int32} {g : Nat → Nat → Int32} (hR : st_mo S f g) (x y : Int32) : ∃ (k : Nat) (a : Int32) (S1 : sT), k ≤ 1 ∧ st_ok S1 ∧ (∀ ad cf, RepX D S ad cf → lw_Cl l D A ad cf yX4_dieHeight (Cond.code yX4_dieHeight cX4_dieHeight 3 (some Jvm.ClassFile.FieldType.int)) [.ref (ad 0), .int x, .int y] lw_exO k a S1) ∧ (∀ ad cf0, lw_Mo l D A ad cf0 f g yX5_dieHeight (Cond.code yX5_dieHeight cX5_dieHeight 3 (some Jvm.ClassFile.FieldType.int)) [.ref (ad 1000020), .int x, .int y] k a S1) := by
  obtain ⟨⟨o1, o2, o3, o4, o5⟩, oP, oK, oD, oX, oC, oI⟩ := id hO
  have hK : ∀ j, j < 128 → sK S (sW S) j < 4 := fun j hj => oK (sW S) j o3 hj
  by_cases g1 : 0 ≤ x.toInt ∧ x.toInt < (sD S : Nat)
  rotate_left
  · exact ⟨1, 0, S, by omega, hO, fun ad cf hX => lw_clT (d := 7) (by omega) (by omega) rfl hX (c_dieHeight_x1 l D A hst hX hO  (by omega)), fun ad cf0 => lw_moT (by omega) (by omega) hR (c_mdieHeight_1 l D A hR hO  (by omega))⟩
  obtain ⟨d, hn1, rfl⟩ := lw_nat (x := x) (n := sD S) (by omega) (by omega)
  have h1 : d < sD S := by omega
  by_cases g2 : 0 ≤ y.toInt ∧ y.toInt < 16
  rotate_left
  · exact ⟨1, 0, S, by omega, hO, fun ad cf hX => lw_clT (d := 7) (by omega) (by omega) rfl hX (c_dieHeight_x2 l D A hst hX hO h1 (by omega)), fun ad cf0 => lw_moT (by omega) (by omega) hR (c_mdieHeight_2 l D A hR hO h1 (by omega))⟩
  obtain ⟨b, hn2, rfl⟩ := lw_nat (x := y) (n := 61) (by omega) (by omega)
  have h2 : b < 16 := by omega
  exact ⟨0, nI (sH S d b), S, by omega, hO, fun ad cf hX => lw_clR (d := 3) (by omega) hX (c_dieHeight l D A hX hO h1 h2), fun ad cf0 => lw_moO (by omega) (c_mdieHeight l D A hR hO h1 h2)⟩
set_option maxHeartbeats 2000000 in
theorem lw_o_coinHeight (l : Launch) (D : va_G) (A : Nat → Prop) (hst : l.stackTraces = false) (hAu : ∀ a b, A a → a ≤ b → A b) {S : sT} (hO : st_ok S) {f : Nat → Int32} {g : Nat → Nat → Int32} (hR : st_mo S f g) (x y : Int32) : ∃ (k : Nat) (a : Int32) (S1 : sT), k ≤ 1 ∧ st_ok S1 ∧ (∀ ad cf, RepX D S ad cf → lw_Cl l D A ad cf yX4_coinHeight (Cond.code yX4_coinHeight cX4_coinHeight 3 (some Jvm.ClassFile.FieldType.int)) [.ref (ad 0), .int x, .int y] lw_exO k a S1) ∧ (∀ ad cf0, lw_Mo l D A ad cf0 f g yX5_coinHeight (Cond.code yX5_coinHeight cX5_coinHeight 3 (some Jvm.ClassFile.FieldType.int)) [.ref (ad 1000020), .int x, .int y] k a S1) := by
  obtain ⟨⟨o1, o2, o3, o4, o5⟩, oP, oK, oD, oX, oC, oI⟩ := id hO
  have hK : ∀ j, j < 128 → sK S (sW S) j < 4 := fun j hj => oK (sW S) j o3 hj
  by_cases g1 : 0 ≤ x.toInt ∧ x.toInt < (sC S : Nat)
  rotate_left
  · exact ⟨1, 0, S, by omega, hO, fun ad cf hX => lw_clT (d := 7) (by omega) (by omega) rfl hX (c_coinHeight_x1 l D A hst hX hO  (by omega)), fun ad cf0 => lw_moT (by omega) (by omega) hR (c_mcoinHeight_1 l D A hR hO  (by omega))⟩
  obtain ⟨a, hn1, rfl⟩ := lw_nat (x := x) (n := sC S) (by omega) (by omega)
  have h1 : a < sC S := by omega
  by_cases g2 : 0 ≤ y.toInt ∧ y.toInt < 16
  rotate_left
  · exact ⟨1, 0, S, by omega, hO, fun ad cf hX => lw_clT (d := 7) (by omega) (by omega) rfl hX (c_coinHeight_x2 l D A hst hX hO h1 (by omega)), fun ad cf0 => lw_moT (by omega) (by omega) hR (c_mcoinHeight_2 l D A hR hO h1 (by omega))⟩
  obtain ⟨b, hn2, rfl⟩ := lw_nat (x := y) (n := 61) (by omega) (by omega)
  have h2 : b < 16 := by omega
  exact ⟨0, nI (sCh S a b), S, by omega, hO, fun ad cf hX => lw_clR (d := 3) (by omega) hX (c_coinHeight l D A hX hO h1 h2), fun ad cf0 => lw_moO (by omega) (c_mcoinHeight l D A hR hO h1 h2)⟩
set_option maxHeartbeats 2000000 in
theorem lw_o_grade (l : Launch) (D : va_G) (A : Nat → Prop) (hst : l.stackTraces = false) (hAu : ∀ a b, A a → a ≤ b → A b) {S : sT} (hO : st_ok S) {f : Nat → Int32} {g : Nat → Nat → Int32} (hR : st_mo S f g) (x : Int32) : ∃ (k : Nat) (a : Int32) (S1 : sT), k ≤ 1 ∧ st_ok S1 ∧ (∀ ad cf, RepX D S ad cf → lw_Cl l D A ad cf yX4_grade (Cond.code yX4_grade cX4_grade 4 (some Jvm.ClassFile.FieldType.int)) [.ref (ad 0), .int x] lw_exO k a S1) ∧ (∀ ad cf0, lw_Mo l D A ad cf0 f g yX5_grade (Cond.code yX5_grade cX5_grade 4 (some Jvm.ClassFile.FieldType.int)) [.ref (ad 1000020), .int x] k a S1) := by
  obtain ⟨⟨o1, o2, o3, o4, o5⟩, oP, oK, oD, oX, oC, oI⟩ := id hO
  have hK : ∀ j, j < 128 → sK S (sW S) j < 4 := fun j hj => oK (sW S) j o3 hj
  by_cases g1 : 0 ≤ x.toInt ∧ x.toInt < (sC S : Nat)
  rotate_left
  · exact ⟨1, 0, S, by omega, hO, fun ad cf hX => lw_clT (d := 7) (by omega) (by omega) rfl hX (c_grade_x1 l D A hst hX hO  (by omega)), fun ad cf0 => lw_moT (by omega) (by omega) hR (c_mgrade_1 l D A hR hO  (by omega))⟩
  obtain ⟨a, hn1, rfl⟩ := lw_nat (x := x) (n := sC S) (by omega) (by omega)
  have h1 : a < sC S := by omega
  exact ⟨0, nI (if 20 < sp_ds (sCh S a) (sF S (sCd S a)) 16 then 0 else 100 - 5 * sp_ds (sCh S a) (sF S (sCd S a)) 16), S, by omega, hO, fun ad cf hX => lw_clR (d := 3) (by omega) hX (c_grade l D A hX hO h1), fun ad cf0 => lw_moO (by omega) (c_mgrade l D A hR hO h1)⟩
set_option maxHeartbeats 2000000 in
theorem lw_o_isForged (l : Launch) (D : va_G) (A : Nat → Prop) (hst : l.stackTraces = false) (hAu : ∀ a b, A a → a ≤ b → A b) {S : sT} (hO : st_ok S) {f : Nat → Int32} {g : Nat → Nat → Int32} (hR : st_mo S f g) (x : Int32) : ∃ (k : Nat) (a : Int32) (S1 : sT), k ≤ 1 ∧ st_ok S1 ∧ (a = nI 0 ∨ a = nI 1) ∧ (∀ ad cf, RepX D S ad cf → lw_Cl l D A ad cf yX4_isForged (Cond.code yX4_isForged cX4_isForged 3 (some Jvm.ClassFile.FieldType.boolean)) [.ref (ad 0), .int x] lw_exO k a S1) ∧ (∀ ad cf0, lw_Mo l D A ad cf0 f g yX5_isForged (Cond.code yX5_isForged cX5_isForged 4 (some Jvm.ClassFile.FieldType.boolean)) [.ref (ad 1000020), .int x] k a S1) := by
  obtain ⟨⟨o1, o2, o3, o4, o5⟩, oP, oK, oD, oX, oC, oI⟩ := id hO
  have hK : ∀ j, j < 128 → sK S (sW S) j < 4 := fun j hj => oK (sW S) j o3 hj
  by_cases g1 : 0 ≤ x.toInt ∧ x.toInt < (sC S : Nat)
  rotate_left
  · exact ⟨1, 0, S, by omega, hO, Or.inl rfl, fun ad cf hX => lw_clT (d := 7) (by omega) (by omega) rfl hX (c_isForged_x1 l D A hst hX hO  (by omega)), fun ad cf0 => lw_moT (by omega) (by omega) hR (c_misForged_1 l D A hR hO  (by omega))⟩
  obtain ⟨a, hn1, rfl⟩ := lw_nat (x := x) (n := sC S) (by omega) (by omega)
  have h1 : a < sC S := by omega
  exact ⟨0, nI (sp_fg (sCh S a) (wn (sF S (sCd S a)) ((sCn S a - 1) / 2)) 16), S, by omega, hO, lw_fg01 _ _ _, fun ad cf hX => lw_clR (d := 3) (by omega) hX (c_isForged l D A hX hO h1), fun ad cf0 => lw_moO (by omega) (c_misForged l D A hR hO h1)⟩
set_option maxHeartbeats 2000000 in
theorem lw_o_distance (l : Launch) (D : va_G) (A : Nat → Prop) (hst : l.stackTraces = false) (hAu : ∀ a b, A a → a ≤ b → A b) {S : sT} (hO : st_ok S) {f : Nat → Int32} {g : Nat → Nat → Int32} (hR : st_mo S f g) (x y : Int32) : ∃ (k : Nat) (a : Int32) (S1 : sT), k ≤ 1 ∧ st_ok S1 ∧ (∀ ad cf, RepX D S ad cf → lw_Cl l D A ad cf yX4_distance (Cond.code yX4_distance cX4_distance 3 (some Jvm.ClassFile.FieldType.int)) [.ref (ad 0), .int x, .int y] lw_exO k a S1) ∧ (∀ ad cf0, lw_Mo l D A ad cf0 f g yX5_distance (Cond.code yX5_distance cX5_distance 5 (some Jvm.ClassFile.FieldType.int)) [.ref (ad 1000020), .int x, .int y] k a S1) := by
  obtain ⟨⟨o1, o2, o3, o4, o5⟩, oP, oK, oD, oX, oC, oI⟩ := id hO
  have hK : ∀ j, j < 128 → sK S (sW S) j < 4 := fun j hj => oK (sW S) j o3 hj
  by_cases g1 : 0 ≤ x.toInt ∧ x.toInt < (sC S : Nat)
  rotate_left
  · exact ⟨1, 0, S, by omega, hO, fun ad cf hX => lw_clT (d := 7) (by omega) (by omega) rfl hX (c_distance_x1 l D A hst hX hO  (by omega)), fun ad cf0 => lw_moT (by omega) (by omega) hR (c_mdistance_1 l D A hR hO  (by omega))⟩
  obtain ⟨a, hn1, rfl⟩ := lw_nat (x := x) (n := sC S) (by omega) (by omega)
  have h1 : a < sC S := by omega
  by_cases g2 : 0 ≤ y.toInt ∧ y.toInt < (sC S : Nat)
  rotate_left
  · exact ⟨1, 0, S, by omega, hO, fun ad cf hX => lw_clT (d := 7) (by omega) (by omega) rfl hX (c_distance_x2 l D A hst hX hO h1 (by omega)), fun ad cf0 => lw_moT (by omega) (by omega) hR (c_mdistance_2 l D A hR hO h1 (by omega))⟩
  obtain ⟨b, hn2, rfl⟩ := lw_nat (x := y) (n := sC S) (by omega) (by omega)
  have h2 : b < sC S := by omega
  exact ⟨0, nI (sp_ds (sCh S a) (sCh S b) 16), S, by omega, hO, fun ad cf hX => lw_clR (d := 3) (by omega) hX (c_distance l D A hX hO h1 h2), fun ad cf0 => lw_moO (by omega) (c_mdistance l D A hR hO h1 h2)⟩
set_option maxHeartbeats 2000000 in
theorem lw_o_cut (l : Launch) (D : va_G) (A : Nat → Prop) (hst : l.stackTraces = false) (hAu : ∀ a b, A a → a ≤ b → A b) {S : sT} (hO : st_ok S) {f : Nat → Int32} {g : Nat → Nat → Int32} (hR : st_mo S f g) : ∃ (k : Nat) (a : Int32) (S1 : sT), k ≤ 1 ∧ st_ok S1 ∧ (∀ ad cf, RepX D S ad cf → lw_Cl l D A ad cf yX4_cut (Cond.code yX4_cut cX4_cut 1 (some Jvm.ClassFile.FieldType.int)) [.ref (ad 0)] lw_exS k a S1) ∧ (∀ ad cf0, lw_Mo l D A ad cf0 f g yX5_cut (Cond.code yX5_cut cX5_cut 2 (some Jvm.ClassFile.FieldType.int)) [.ref (ad 1000020)] k a S1) := by
  obtain ⟨⟨o1, o2, o3, o4, o5⟩, oP, oK, oD, oX, oC, oI⟩ := id hO
  obtain ⟨k, hct⟩ := pc_ct_ex (pc_lst (sK S (sW S))) 128
  by_cases h8 : sD S < 8
  · by_cases hk1 : k = 1
    · subst hk1
      exact ⟨0, nI (sD S), st_cut S, by omega, st_ok_cut hO h8, fun ad cf hX => lw_clM (d := 8) (mc := 6) (ms := 1057) ⟨by omega, by omega, by omega⟩ (c_cut l D A hX hO hAu hct h8), fun ad cf0 => lw_moO (by omega) (c_mcut l D A hR hO hct h8)⟩
    · exact ⟨1, 0, S, by omega, hO, fun ad cf hX => lw_clX (d := 7) (by omega) (by omega) rfl (c_cut_x2 l D A hst hX hO hct hk1 h8), fun ad cf0 => lw_moC (by omega) (by omega) hR (c_mcut_1 l D A hR hO hct hk1)⟩
  · refine ⟨1, 0, S, by omega, hO, fun ad cf hX => lw_clT (d := 6) (by omega) (by omega) rfl hX (c_cut_x1 l D A hst hX hO (by omega)), fun ad cf0 => ?_⟩
    by_cases hk1 : k = 1
    · exact lw_moC (by omega) (by omega) hR (c_mcut_2 l D A hR hO hct hk1 (by omega))
    · exact lw_moC (by omega) (by omega) hR (c_mcut_1 l D A hR hO hct hk1)
set_option maxHeartbeats 2000000 in
theorem lw_o_blocks (l : Launch) (D : va_G) (A : Nat → Prop) (hst : l.stackTraces = false) (hAu : ∀ a b, A a → a ≤ b → A b) {S : sT} (hO : st_ok S) {f : Nat → Int32} {g : Nat → Nat → Int32} (hR : st_mo S f g) : ∃ a : Int32, (∀ ad cf, RepX D S ad cf → lw_Cl l D A ad cf yX4_blocks (Cond.code yX4_blocks cX4_blocks 3 (some Jvm.ClassFile.FieldType.int)) [.ref (ad 0)] lw_exO 0 a S) ∧ (∀ ad cf0, lw_Mo l D A ad cf0 f g yX5_blocks (Cond.code yX5_blocks cX5_blocks 1 (some Jvm.ClassFile.FieldType.int)) [.ref (ad 1000020)] 0 a S) := by
  exact ⟨nI (sp_blocks (sK S (sW S))), fun ad cf hX => lw_clR (d := 4) (by omega) hX (c_blocks l D A hX hO), fun ad cf0 => lw_moO (by omega) (c_mblocks l D A hR hO)⟩
set_option maxHeartbeats 2000000 in
theorem lw_o_blocksOneByOne (l : Launch) (D : va_G) (A : Nat → Prop) (hst : l.stackTraces = false) (hAu : ∀ a b, A a → a ≤ b → A b) {S : sT} (hO : st_ok S) {f : Nat → Int32} {g : Nat → Nat → Int32} (hR : st_mo S f g) : ∃ a : Int32, (∀ ad cf, RepX D S ad cf → lw_Cl l D A ad cf yX4_blocksOneByOne (Cond.code yX4_blocksOneByOne cX4_blocksOneByOne 4 (some Jvm.ClassFile.FieldType.int)) [.ref (ad 0)] lw_exO 0 a S) ∧ (∀ ad cf0, lw_Mo l D A ad cf0 f g yX5_blocksOneByOne (Cond.code yX5_blocksOneByOne cX5_blocksOneByOne 1 (some Jvm.ClassFile.FieldType.int)) [.ref (ad 1000020)] 0 a S) := by
  exact ⟨nI (sp_blocks (sK S (sW S))), fun ad cf hX => lw_clR (d := 2) (by omega) hX (c_blocksOneByOne l D A hX hO), fun ad cf0 => lw_moO (by omega) (c_mblocksOneByOne l D A hR hO)⟩
set_option maxHeartbeats 2000000 in
theorem lw_o_state (l : Launch) (D : va_G) (A : Nat → Prop) (hst : l.stackTraces = false) (hAu : ∀ a b, A a → a ≤ b → A b) {S : sT} (hO : st_ok S) {f : Nat → Int32} {g : Nat → Nat → Int32} (hR : st_mo S f g) : ∃ a : Int32, (∀ ad cf, RepX D S ad cf → lw_Cl l D A ad cf yX4_state (Cond.code yX4_state cX4_state 1 (some Jvm.ClassFile.FieldType.int)) [.ref (ad 0)] lw_exO 0 a S) ∧ (∀ ad cf0, lw_Mo l D A ad cf0 f g yX5_state (Cond.code yX5_state cX5_state 1 (some Jvm.ClassFile.FieldType.int)) [.ref (ad 1000020)] 0 a S) := by
  exact ⟨nI (sW S), fun ad cf hX => lw_clR (d := 0) (by omega) hX (c_state l D A hX hO), fun ad cf0 => lw_moO (by omega) (c_mstate l D A hR hO)⟩
set_option maxHeartbeats 2000000 in
theorem lw_o_states (l : Launch) (D : va_G) (A : Nat → Prop) (hst : l.stackTraces = false) (hAu : ∀ a b, A a → a ≤ b → A b) {S : sT} (hO : st_ok S) {f : Nat → Int32} {g : Nat → Nat → Int32} (hR : st_mo S f g) : ∃ a : Int32, (∀ ad cf, RepX D S ad cf → lw_Cl l D A ad cf yX4_states (Cond.code yX4_states cX4_states 1 (some Jvm.ClassFile.FieldType.int)) [.ref (ad 0)] lw_exO 0 a S) ∧ (∀ ad cf0, lw_Mo l D A ad cf0 f g yX5_states (Cond.code yX5_states cX5_states 1 (some Jvm.ClassFile.FieldType.int)) [.ref (ad 1000020)] 0 a S) := by
  exact ⟨nI (sN S), fun ad cf hX => lw_clR (d := 1) (by omega) hX (c_states l D A hX hO), fun ad cf0 => lw_moO (by omega) (c_mstates l D A hR hO)⟩
set_option maxHeartbeats 2000000 in
theorem lw_o_branches (l : Launch) (D : va_G) (A : Nat → Prop) (hst : l.stackTraces = false) (hAu : ∀ a b, A a → a ≤ b → A b) {S : sT} (hO : st_ok S) {f : Nat → Int32} {g : Nat → Nat → Int32} (hR : st_mo S f g) : ∃ a : Int32, (∀ ad cf, RepX D S ad cf → lw_Cl l D A ad cf yX4_branches (Cond.code yX4_branches cX4_branches 3 (some Jvm.ClassFile.FieldType.int)) [.ref (ad 0)] lw_exO 0 a S) ∧ (∀ ad cf0, lw_Mo l D A ad cf0 f g yX5_branches (Cond.code yX5_branches cX5_branches 1 (some Jvm.ClassFile.FieldType.int)) [.ref (ad 1000020)] 0 a S) := by
  exact ⟨nI (sp_br S (sW S) (sN S)), fun ad cf hX => lw_clR (d := 3) (by omega) hX (c_branches l D A hX hO), fun ad cf0 => lw_moO (by omega) (c_mbranches l D A hR hO)⟩
set_option maxHeartbeats 2000000 in
theorem lw_o_pieces (l : Launch) (D : va_G) (A : Nat → Prop) (hst : l.stackTraces = false) (hAu : ∀ a b, A a → a ≤ b → A b) {S : sT} (hO : st_ok S) {f : Nat → Int32} {g : Nat → Nat → Int32} (hR : st_mo S f g) : ∃ a : Int32, (∀ ad cf, RepX D S ad cf → lw_Cl l D A ad cf yX4_pieces (Cond.code yX4_pieces cX4_pieces 1 (some Jvm.ClassFile.FieldType.int)) [.ref (ad 0)] lw_exO 0 a S) ∧ (∀ ad cf0, lw_Mo l D A ad cf0 f g yX5_pieces (Cond.code yX5_pieces cX5_pieces 1 (some Jvm.ClassFile.FieldType.int)) [.ref (ad 1000020)] 0 a S) := by
  obtain ⟨k, hct⟩ := pc_ct_ex (pc_lst (sK S (sW S))) 128
  exact ⟨nI k, fun ad cf hX => lw_clM (d := 6) (mc := 0) (ms := 0) ⟨by omega, by omega, by omega⟩ (c_pieces l D A hX hO hct), fun ad cf0 => lw_moO (by omega) (c_mpieces l D A hR hO hct)⟩

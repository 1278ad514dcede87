/-! the classes: their fields lie as the tables say -/
def ftyL (ci : Nat) : List Nat := (t_fty[ci]?).getD []
def p_lay0 : List Nat := [246, 248, 250, 252, 254, 256, 258, 260, 262, 264, 266, 268, 270, 272, 274, 276, 278, 280, 282]
set_option maxRecDepth 100000 in
theorem lay_0 : ∀ k, k < 19 → gwAt ((p_lay0[k]?).getD 0) (u_lay RX0 TX0 k) = true := by decide +kernel
theorem in_0 : ∀ w ∈ u_ws RX0 TX0 19, w ∈ GWl := by
  intro w hw
  obtain ⟨k, hk, rfl⟩ := List.mem_map.mp hw
  exact gwAt_mem (lay_0 k (List.mem_range.mp hk))
theorem fty_0 : (ftyL 0).length = 19 ∧ ∀ k, k < 19 → (ftyL 0)[k]? = some (tyC (tyX0 k)) := by decide +kernel
def p_lay1 : List Nat := [565, 567, 569]
set_option maxRecDepth 100000 in
theorem lay_1 : ∀ k, k < 3 → gwAt ((p_lay1[k]?).getD 0) (u_lay RX1 TX1 k) = true := by decide +kernel
theorem in_1 : ∀ w ∈ u_ws RX1 TX1 3, w ∈ GWl := by
  intro w hw
  obtain ⟨k, hk, rfl⟩ := List.mem_map.mp hw
  exact gwAt_mem (lay_1 k (List.mem_range.mp hk))
theorem fty_1 : (ftyL 1).length = 3 ∧ ∀ k, k < 3 → (ftyL 1)[k]? = some (tyC (tyX1 k)) := by decide +kernel
def p_lay2 : List Nat := [509, 511, 513, 515, 517]
set_option maxRecDepth 100000 in
theorem lay_2 : ∀ k, k < 5 → gwAt ((p_lay2[k]?).getD 0) (u_lay RX2 TX2 k) = true := by decide +kernel
theorem in_2 : ∀ w ∈ u_ws RX2 TX2 5, w ∈ GWl := by
  intro w hw
  obtain ⟨k, hk, rfl⟩ := List.mem_map.mp hw
  exact gwAt_mem (lay_2 k (List.mem_range.mp hk))
theorem fty_2 : (ftyL 2).length = 5 ∧ ∀ k, k < 5 → (ftyL 2)[k]? = some (tyC (tyX2 k)) := by decide +kernel
def p_lay3 : List Nat := [536, 538, 540, 542, 544, 546, 548, 550]
set_option maxRecDepth 100000 in
theorem lay_3 : ∀ k, k < 8 → gwAt ((p_lay3[k]?).getD 0) (u_lay RX3 TX3 k) = true := by decide +kernel
theorem in_3 : ∀ w ∈ u_ws RX3 TX3 8, w ∈ GWl := by
  intro w hw
  obtain ⟨k, hk, rfl⟩ := List.mem_map.mp hw
  exact gwAt_mem (lay_3 k (List.mem_range.mp hk))
theorem fty_3 : (ftyL 3).length = 8 ∧ ∀ k, k < 8 → (ftyL 3)[k]? = some (tyC (tyX3 k)) := by decide +kernel
def p_lay4 : List Nat := [168, 170, 172, 174]
set_option maxRecDepth 100000 in
theorem lay_4 : ∀ k, k < 4 → gwAt ((p_lay4[k]?).getD 0) (u_lay RX4 TX4 k) = true := by decide +kernel
theorem in_4 : ∀ w ∈ u_ws RX4 TX4 4, w ∈ GWl := by
  intro w hw
  obtain ⟨k, hk, rfl⟩ := List.mem_map.mp hw
  exact gwAt_mem (lay_4 k (List.mem_range.mp hk))
theorem fty_4 : (ftyL 4).length = 4 ∧ ∀ k, k < 4 → (ftyL 4)[k]? = some (tyC (tyX4 k)) := by decide +kernel
def p_lay5 : List Nat := [458, 460, 462, 464]
set_option maxRecDepth 100000 in
theorem lay_5 : ∀ k, k < 4 → gwAt ((p_lay5[k]?).getD 0) (u_lay RX5 TX5 k) = true := by decide +kernel
theorem in_5 : ∀ w ∈ u_ws RX5 TX5 4, w ∈ GWl := by
  intro w hw
  obtain ⟨k, hk, rfl⟩ := List.mem_map.mp hw
  exact gwAt_mem (lay_5 k (List.mem_range.mp hk))
theorem fty_5 : (ftyL 5).length = 4 ∧ ∀ k, k < 4 → (ftyL 5)[k]? = some (tyC (tyX5 k)) := by decide +kernel
def p_lay6 : List Nat := [359, 361, 363, 365, 367, 369, 371, 373, 375, 377, 379, 381, 383, 385]
set_option maxRecDepth 100000 in
theorem lay_6 : ∀ k, k < 14 → gwAt ((p_lay6[k]?).getD 0) (u_lay RX6 TX6 k) = true := by decide +kernel
theorem in_6 : ∀ w ∈ u_ws RX6 TX6 14, w ∈ GWl := by
  intro w hw
  obtain ⟨k, hk, rfl⟩ := List.mem_map.mp hw
  exact gwAt_mem (lay_6 k (List.mem_range.mp hk))
theorem fty_6 : (ftyL 6).length = 14 ∧ ∀ k, k < 14 → (ftyL 6)[k]? = some (tyC (tyX6 k)) := by decide +kernel
def p_lay7 : List Nat := [484, 486, 488, 490, 492, 494]
set_option maxRecDepth 100000 in
theorem lay_7 : ∀ k, k < 6 → gwAt ((p_lay7[k]?).getD 0) (u_lay RX7 TX7 k) = true := by decide +kernel
theorem in_7 : ∀ w ∈ u_ws RX7 TX7 6, w ∈ GWl := by
  intro w hw
  obtain ⟨k, hk, rfl⟩ := List.mem_map.mp hw
  exact gwAt_mem (lay_7 k (List.mem_range.mp hk))
theorem fty_7 : (ftyL 7).length = 6 ∧ ∀ k, k < 6 → (ftyL 7)[k]? = some (tyC (tyX7 k)) := by decide +kernel
def p_lay8 : List Nat := [426, 428, 430, 432, 434, 436, 438, 440, 442, 444]
set_option maxRecDepth 100000 in
theorem lay_8 : ∀ k, k < 10 → gwAt ((p_lay8[k]?).getD 0) (u_lay RX8 TX8 k) = true := by decide +kernel
theorem in_8 : ∀ w ∈ u_ws RX8 TX8 10, w ∈ GWl := by
  intro w hw
  obtain ⟨k, hk, rfl⟩ := List.mem_map.mp hw
  exact gwAt_mem (lay_8 k (List.mem_range.mp hk))
theorem fty_8 : (ftyL 8).length = 10 ∧ ∀ k, k < 10 → (ftyL 8)[k]? = some (tyC (tyX8 k)) := by decide +kernel
def p_lay9 : List Nat := [592, 594, 596, 598, 600, 602, 604, 606, 608, 610, 612, 614, 616, 618, 620, 622]
set_option maxRecDepth 100000 in
theorem lay_9 : ∀ k, k < 16 → gwAt ((p_lay9[k]?).getD 0) (u_lay RX9 TX9 k) = true := by decide +kernel
theorem in_9 : ∀ w ∈ u_ws RX9 TX9 16, w ∈ GWl := by
  intro w hw
  obtain ⟨k, hk, rfl⟩ := List.mem_map.mp hw
  exact gwAt_mem (lay_9 k (List.mem_range.mp hk))
theorem fty_9 : (ftyL 9).length = 16 ∧ ∀ k, k < 16 → (ftyL 9)[k]? = some (tyC (tyX9 k)) := by decide +kernel
def p_lay10 : List Nat := [1437, 1439, 1441, 1443, 1445, 1447, 1449, 1451, 1453, 1455, 1457, 1459, 1461, 1463, 1465, 1467, 1469, 1471, 1473, 1475, 1477, 1479, 1481, 1483, 1485, 1487, 1489, 1491, 1493, 1495, 1497, 1499, 1501, 1503, 1505, 1507, 1509, 1511, 1513, 1515, 1517, 1519, 1521, 1523, 1525, 1527, 1529, 1531, 1533, 1535, 1537, 1539, 1541, 1543, 1545, 1547, 1549, 1551, 1553, 1555, 1557, 1559, 1561, 1563, 1565, 1567, 1569, 1571, 1573, 1575, 1577, 1579, 1581, 1583, 1585, 1587, 1589, 1591, 1593, 1595, 1597, 1599, 1601, 1603, 1605, 1607, 1609]
set_option maxRecDepth 100000 in
theorem lay_10 : ∀ k, k < 87 → gwAt ((p_lay10[k]?).getD 0) (u_lay RX10 TX10 k) = true := by decide +kernel
theorem in_10 : ∀ w ∈ u_ws RX10 TX10 87, w ∈ GWl := by
  intro w hw
  obtain ⟨k, hk, rfl⟩ := List.mem_map.mp hw
  exact gwAt_mem (lay_10 k (List.mem_range.mp hk))
theorem fty_10 : (ftyL 10).length = 87 ∧ ∀ k, k < 87 → (ftyL 10)[k]? = some (tyC (tyX10 k)) := by decide +kernel
/-- a class of the world: what a walk needs of it -/
def ClsOK (ci : Nat) (C : String) (T : u_T) (N : Nat) : Prop := ∃ ty : Nat → FieldType, (∀ w ∈ u_ws C T N, w ∈ GWl) ∧ (∀ k, k < N → parseFieldDescriptor (T k).2.2.1 = some (ty k)) ∧ (∀ a, a < N → ∀ b, b < N → a ≠ b → (T a).2.1 ≠ (T b).2.1) ∧ (ftyL ci).length = N ∧ (∀ k, k < N → (ftyL ci)[k]? = some (tyC (ty k))) ∧ (∀ k, k < N → (ty k = .int ∨ ty k = .boolean ∨ ty k = .long ∨ ∃ t, ty k = .array t ∨ ∃ n, ty k = .object n))
theorem tyk_0 : ∀ k, k < 19 → (tyX0 k = .int ∨ tyX0 k = .boolean ∨ tyX0 k = .long ∨ ∃ t, tyX0 k = .array t ∨ ∃ n, tyX0 k = .object n) := by
  intro k hk
  have h : k = 0 ∨ k = 1 ∨ k = 2 ∨ k = 3 ∨ k = 4 ∨ k = 5 ∨ k = 6 ∨ k = 7 ∨ k = 8 ∨ k = 9 ∨ k = 10 ∨ k = 11 ∨ k = 12 ∨ k = 13 ∨ k = 14 ∨ k = 15 ∨ k = 16 ∨ k = 17 ∨ k = 18 := by omega
  rcases h with rfl | rfl | rfl | rfl | rfl | rfl | rfl | rfl | rfl | rfl | rfl | rfl | rfl | rfl | rfl | rfl | rfl | rfl | rfl
  · exact Or.inl rfl
  · exact Or.inl rfl
  · exact Or.inl rfl
  · exact Or.inl rfl
  · exact Or.inl rfl
  · exact Or.inl rfl
  · exact Or.inr (Or.inl rfl)
  · exact Or.inr (Or.inr (Or.inr ⟨_, Or.inl rfl⟩))
  · exact Or.inr (Or.inr (Or.inr ⟨_, Or.inl rfl⟩))
  · exact Or.inr (Or.inr (Or.inr ⟨_, Or.inl rfl⟩))
  · exact Or.inr (Or.inr (Or.inr ⟨_, Or.inl rfl⟩))
  · exact Or.inr (Or.inr (Or.inr ⟨_, Or.inl rfl⟩))
  · exact Or.inr (Or.inr (Or.inr ⟨_, Or.inl rfl⟩))
  · exact Or.inr (Or.inr (Or.inr ⟨_, Or.inl rfl⟩))
  · exact Or.inr (Or.inr (Or.inr ⟨_, Or.inl rfl⟩))
  · exact Or.inr (Or.inr (Or.inr ⟨_, Or.inl rfl⟩))
  · exact Or.inr (Or.inr (Or.inr ⟨_, Or.inl rfl⟩))
  · exact Or.inr (Or.inr (Or.inr ⟨_, Or.inl rfl⟩))
  · exact Or.inr (Or.inr (Or.inr ⟨.int, Or.inr ⟨_, rfl⟩⟩))
theorem tyk_1 : ∀ k, k < 3 → (tyX1 k = .int ∨ tyX1 k = .boolean ∨ tyX1 k = .long ∨ ∃ t, tyX1 k = .array t ∨ ∃ n, tyX1 k = .object n) := by
  intro k hk
  have h : k = 0 ∨ k = 1 ∨ k = 2 := by omega
  rcases h with rfl | rfl | rfl
  · exact Or.inr (Or.inr (Or.inr ⟨_, Or.inl rfl⟩))
  · exact Or.inr (Or.inr (Or.inr ⟨_, Or.inl rfl⟩))
  · exact Or.inl rfl
theorem tyk_2 : ∀ k, k < 5 → (tyX2 k = .int ∨ tyX2 k = .boolean ∨ tyX2 k = .long ∨ ∃ t, tyX2 k = .array t ∨ ∃ n, tyX2 k = .object n) := by
  intro k hk
  have h : k = 0 ∨ k = 1 ∨ k = 2 ∨ k = 3 ∨ k = 4 := by omega
  rcases h with rfl | rfl | rfl | rfl | rfl
  · exact Or.inr (Or.inr (Or.inr ⟨_, Or.inl rfl⟩))
  · exact Or.inr (Or.inr (Or.inr ⟨_, Or.inl rfl⟩))
  · exact Or.inr (Or.inr (Or.inr ⟨_, Or.inl rfl⟩))
  · exact Or.inl rfl
  · exact Or.inl rfl
theorem tyk_3 : ∀ k, k < 8 → (tyX3 k = .int ∨ tyX3 k = .boolean ∨ tyX3 k = .long ∨ ∃ t, tyX3 k = .array t ∨ ∃ n, tyX3 k = .object n) := by
  intro k hk
  have h : k = 0 ∨ k = 1 ∨ k = 2 ∨ k = 3 ∨ k = 4 ∨ k = 5 ∨ k = 6 ∨ k = 7 := by omega
  rcases h with rfl | rfl | rfl | rfl | rfl | rfl | rfl | rfl
  · exact Or.inr (Or.inr (Or.inr ⟨_, Or.inl rfl⟩))
  · exact Or.inr (Or.inr (Or.inr ⟨_, Or.inl rfl⟩))
  · exact Or.inr (Or.inr (Or.inr ⟨_, Or.inl rfl⟩))
  · exact Or.inr (Or.inr (Or.inr ⟨_, Or.inl rfl⟩))
  · exact Or.inr (Or.inr (Or.inr ⟨_, Or.inl rfl⟩))
  · exact Or.inr (Or.inr (Or.inr ⟨_, Or.inl rfl⟩))
  · exact Or.inl rfl
  · exact Or.inl rfl
theorem tyk_4 : ∀ k, k < 4 → (tyX4 k = .int ∨ tyX4 k = .boolean ∨ tyX4 k = .long ∨ ∃ t, tyX4 k = .array t ∨ ∃ n, tyX4 k = .object n) := by
  intro k hk
  have h : k = 0 ∨ k = 1 ∨ k = 2 ∨ k = 3 := by omega
  rcases h with rfl | rfl | rfl | rfl
  · exact Or.inl rfl
  · exact Or.inr (Or.inr (Or.inr ⟨_, Or.inl rfl⟩))
  · exact Or.inr (Or.inr (Or.inr ⟨_, Or.inl rfl⟩))
  · exact Or.inr (Or.inr (Or.inr ⟨_, Or.inl rfl⟩))
theorem tyk_5 : ∀ k, k < 4 → (tyX5 k = .int ∨ tyX5 k = .boolean ∨ tyX5 k = .long ∨ ∃ t, tyX5 k = .array t ∨ ∃ n, tyX5 k = .object n) := by
  intro k hk
  have h : k = 0 ∨ k = 1 ∨ k = 2 ∨ k = 3 := by omega
  rcases h with rfl | rfl | rfl | rfl
  · exact Or.inr (Or.inr (Or.inr ⟨_, Or.inl rfl⟩))
  · exact Or.inr (Or.inr (Or.inr ⟨_, Or.inl rfl⟩))
  · exact Or.inr (Or.inr (Or.inl rfl))
  · exact Or.inr (Or.inr (Or.inl rfl))
theorem tyk_6 : ∀ k, k < 14 → (tyX6 k = .int ∨ tyX6 k = .boolean ∨ tyX6 k = .long ∨ ∃ t, tyX6 k = .array t ∨ ∃ n, tyX6 k = .object n) := by
  intro k hk
  have h : k = 0 ∨ k = 1 ∨ k = 2 ∨ k = 3 ∨ k = 4 ∨ k = 5 ∨ k = 6 ∨ k = 7 ∨ k = 8 ∨ k = 9 ∨ k = 10 ∨ k = 11 ∨ k = 12 ∨ k = 13 := by omega
  rcases h with rfl | rfl | rfl | rfl | rfl | rfl | rfl | rfl | rfl | rfl | rfl | rfl | rfl | rfl
  · exact Or.inr (Or.inr (Or.inr ⟨_, Or.inl rfl⟩))
  · exact Or.inr (Or.inr (Or.inr ⟨.int, Or.inr ⟨_, rfl⟩⟩))
  · exact Or.inr (Or.inr (Or.inr ⟨_, Or.inl rfl⟩))
  · exact Or.inr (Or.inr (Or.inr ⟨_, Or.inl rfl⟩))
  · exact Or.inl rfl
  · exact Or.inl rfl
  · exact Or.inl rfl
  · exact Or.inl rfl
  · exact Or.inl rfl
  · exact Or.inl rfl
  · exact Or.inl rfl
  · exact Or.inl rfl
  · exact Or.inl rfl
  · exact Or.inl rfl
theorem tyk_7 : ∀ k, k < 6 → (tyX7 k = .int ∨ tyX7 k = .boolean ∨ tyX7 k = .long ∨ ∃ t, tyX7 k = .array t ∨ ∃ n, tyX7 k = .object n) := by
  intro k hk
  have h : k = 0 ∨ k = 1 ∨ k = 2 ∨ k = 3 ∨ k = 4 ∨ k = 5 := by omega
  rcases h with rfl | rfl | rfl | rfl | rfl | rfl
  · exact Or.inr (Or.inr (Or.inr ⟨.int, Or.inr ⟨_, rfl⟩⟩))
  · exact Or.inr (Or.inr (Or.inr ⟨.int, Or.inr ⟨_, rfl⟩⟩))
  · exact Or.inl rfl
  · exact Or.inl rfl
  · exact Or.inl rfl
  · exact Or.inr (Or.inl rfl)
theorem tyk_8 : ∀ k, k < 10 → (tyX8 k = .int ∨ tyX8 k = .boolean ∨ tyX8 k = .long ∨ ∃ t, tyX8 k = .array t ∨ ∃ n, tyX8 k = .object n) := by
  intro k hk
  have h : k = 0 ∨ k = 1 ∨ k = 2 ∨ k = 3 ∨ k = 4 ∨ k = 5 ∨ k = 6 ∨ k = 7 ∨ k = 8 ∨ k = 9 := by omega
  rcases h with rfl | rfl | rfl | rfl | rfl | rfl | rfl | rfl | rfl | rfl
  · exact Or.inl rfl
  · exact Or.inl rfl
  · exact Or.inr (Or.inr (Or.inr ⟨_, Or.inl rfl⟩))
  · exact Or.inr (Or.inr (Or.inr ⟨_, Or.inl rfl⟩))
  · exact Or.inr (Or.inr (Or.inr ⟨_, Or.inl rfl⟩))
  · exact Or.inr (Or.inr (Or.inr ⟨_, Or.inl rfl⟩))
  · exact Or.inr (Or.inr (Or.inr ⟨_, Or.inl rfl⟩))
  · exact Or.inr (Or.inr (Or.inr ⟨_, Or.inl rfl⟩))
  · exact Or.inr (Or.inr (Or.inr ⟨_, Or.inl rfl⟩))
  · exact Or.inr (Or.inr (Or.inr ⟨_, Or.inl rfl⟩))
theorem tyk_9 : ∀ k, k < 16 → (tyX9 k = .int ∨ tyX9 k = .boolean ∨ tyX9 k = .long ∨ ∃ t, tyX9 k = .array t ∨ ∃ n, tyX9 k = .object n) := by
  intro k hk
  have h : k = 0 ∨ k = 1 ∨ k = 2 ∨ k = 3 ∨ k = 4 ∨ k = 5 ∨ k = 6 ∨ k = 7 ∨ k = 8 ∨ k = 9 ∨ k = 10 ∨ k = 11 ∨ k = 12 ∨ k = 13 ∨ k = 14 ∨ k = 15 := by omega
  rcases h with rfl | rfl | rfl | rfl | rfl | rfl | rfl | rfl | rfl | rfl | rfl | rfl | rfl | rfl | rfl | rfl
  · exact Or.inr (Or.inr (Or.inr ⟨_, Or.inl rfl⟩))
  · exact Or.inl rfl
  · exact Or.inl rfl
  · exact Or.inl rfl
  · exact Or.inr (Or.inr (Or.inr ⟨.int, Or.inr ⟨_, rfl⟩⟩))
  · exact Or.inr (Or.inr (Or.inr ⟨.int, Or.inr ⟨_, rfl⟩⟩))
  · exact Or.inr (Or.inr (Or.inr ⟨.int, Or.inr ⟨_, rfl⟩⟩))
  · exact Or.inr (Or.inr (Or.inr ⟨.int, Or.inr ⟨_, rfl⟩⟩))
  · exact Or.inr (Or.inr (Or.inr ⟨.int, Or.inr ⟨_, rfl⟩⟩))
  · exact Or.inr (Or.inr (Or.inr ⟨.int, Or.inr ⟨_, rfl⟩⟩))
  · exact Or.inr (Or.inl rfl)
  · exact Or.inr (Or.inr (Or.inr ⟨.int, Or.inr ⟨_, rfl⟩⟩))
  · exact Or.inr (Or.inr (Or.inr ⟨.int, Or.inr ⟨_, rfl⟩⟩))
  · exact Or.inr (Or.inr (Or.inr ⟨.int, Or.inr ⟨_, rfl⟩⟩))
  · exact Or.inr (Or.inr (Or.inr ⟨.int, Or.inr ⟨_, rfl⟩⟩))
  · exact Or.inr (Or.inr (Or.inr ⟨.int, Or.inr ⟨_, rfl⟩⟩))
theorem tyk_10 : ∀ k, k < 87 → (tyX10 k = .int ∨ tyX10 k = .boolean ∨ tyX10 k = .long ∨ ∃ t, tyX10 k = .array t ∨ ∃ n, tyX10 k = .object n) := by
  intro k hk
  have h : k = 0 ∨ k = 1 ∨ k = 2 ∨ k = 3 ∨ k = 4 ∨ k = 5 ∨ k = 6 ∨ k = 7 ∨ k = 8 ∨ k = 9 ∨ k = 10 ∨ k = 11 ∨ k = 12 ∨ k = 13 ∨ k = 14 ∨ k = 15 ∨ k = 16 ∨ k = 17 ∨ k = 18 ∨ k = 19 ∨ k = 20 ∨ k = 21 ∨ k = 22 ∨ k = 23 ∨ k = 24 ∨ k = 25 ∨ k = 26 ∨ k = 27 ∨ k = 28 ∨ k = 29 ∨ k = 30 ∨ k = 31 ∨ k = 32 ∨ k = 33 ∨ k = 34 ∨ k = 35 ∨ k = 36 ∨ k = 37 ∨ k = 38 ∨ k = 39 ∨ k = 40 ∨ k = 41 ∨ k = 42 ∨ k = 43 ∨ k = 44 ∨ k = 45 ∨ k = 46 ∨ k = 47 ∨ k = 48 ∨ k = 49 ∨ k = 50 ∨ k = 51 ∨ k = 52 ∨ k = 53 ∨ k = 54 ∨ k = 55 ∨ k = 56 ∨ k = 57 ∨ k = 58 ∨ k = 59 ∨ k = 60 ∨ k = 61 ∨ k = 62 ∨ k = 63 ∨ k = 64 ∨ k = 65 ∨ k = 66 ∨ k = 67 ∨ k = 68 ∨ k = 69 ∨ k = 70 ∨ k = 71 ∨ k = 72 ∨ k = 73 ∨ k = 74 ∨ k = 75 ∨ k = 76 ∨ k = 77 ∨ k = 78 ∨ k = 79 ∨ k = 80 ∨ k = 81 ∨ k = 82 ∨ k = 83 ∨ k = 84 ∨ k = 85 ∨ k = 86 := by omega
  rcases h with rfl | rfl | rfl | rfl | rfl | rfl | rfl | rfl | rfl | rfl | rfl | rfl | rfl | rfl | rfl | rfl | rfl | rfl | rfl | rfl | rfl | rfl | rfl | rfl | rfl | rfl | rfl | rfl | rfl | rfl | rfl | rfl | rfl | rfl | rfl | rfl | rfl | rfl | rfl | rfl | rfl | rfl | rfl | rfl | rfl | rfl | rfl | rfl | rfl | rfl | rfl | rfl | rfl | rfl | rfl | rfl | rfl | rfl | rfl | rfl | rfl | rfl | rfl | rfl | rfl | rfl | rfl | rfl | rfl | rfl | rfl | rfl | rfl | rfl | rfl | rfl | rfl | rfl | rfl | rfl | rfl | rfl | rfl | rfl | rfl | rfl | rfl
  · exact Or.inr (Or.inr (Or.inr ⟨_, Or.inl rfl⟩))
  · exact Or.inl rfl
  · exact Or.inl rfl
  · exact Or.inr (Or.inr (Or.inr ⟨_, Or.inl rfl⟩))
  · exact Or.inl rfl
  · exact Or.inl rfl
  · exact Or.inl rfl
  · exact Or.inl rfl
  · exact Or.inl rfl
  · exact Or.inl rfl
  · exact Or.inl rfl
  · exact Or.inl rfl
  · exact Or.inl rfl
  · exact Or.inl rfl
  · exact Or.inl rfl
  · exact Or.inl rfl
  · exact Or.inl rfl
  · exact Or.inl rfl
  · exact Or.inl rfl
  · exact Or.inl rfl
  · exact Or.inl rfl
  · exact Or.inl rfl
  · exact Or.inr (Or.inr (Or.inr ⟨_, Or.inl rfl⟩))
  · exact Or.inr (Or.inr (Or.inr ⟨_, Or.inl rfl⟩))
  · exact Or.inr (Or.inr (Or.inr ⟨_, Or.inl rfl⟩))
  · exact Or.inr (Or.inr (Or.inr ⟨_, Or.inl rfl⟩))
  · exact Or.inr (Or.inr (Or.inr ⟨_, Or.inl rfl⟩))
  · exact Or.inr (Or.inr (Or.inr ⟨_, Or.inl rfl⟩))
  · exact Or.inr (Or.inr (Or.inr ⟨_, Or.inl rfl⟩))
  · exact Or.inr (Or.inr (Or.inr ⟨_, Or.inl rfl⟩))
  · exact Or.inr (Or.inr (Or.inr ⟨_, Or.inl rfl⟩))
  · exact Or.inr (Or.inr (Or.inr ⟨_, Or.inl rfl⟩))
  · exact Or.inr (Or.inr (Or.inr ⟨_, Or.inl rfl⟩))
  · exact Or.inr (Or.inr (Or.inr ⟨_, Or.inl rfl⟩))
  · exact Or.inr (Or.inr (Or.inr ⟨_, Or.inl rfl⟩))
  · exact Or.inr (Or.inr (Or.inr ⟨_, Or.inl rfl⟩))
  · exact Or.inr (Or.inr (Or.inr ⟨_, Or.inl rfl⟩))
  · exact Or.inr (Or.inr (Or.inr ⟨_, Or.inl rfl⟩))
  · exact Or.inr (Or.inr (Or.inr ⟨_, Or.inl rfl⟩))
  · exact Or.inr (Or.inr (Or.inr ⟨_, Or.inl rfl⟩))
  · exact Or.inr (Or.inr (Or.inr ⟨_, Or.inl rfl⟩))
  · exact Or.inr (Or.inr (Or.inr ⟨_, Or.inl rfl⟩))
  · exact Or.inr (Or.inr (Or.inr ⟨_, Or.inl rfl⟩))
  · exact Or.inl rfl
  · exact Or.inl rfl
  · exact Or.inl rfl
  · exact Or.inl rfl
  · exact Or.inr (Or.inl rfl)
  · exact Or.inr (Or.inl rfl)
  · exact Or.inr (Or.inr (Or.inr ⟨_, Or.inl rfl⟩))
  · exact Or.inr (Or.inr (Or.inr ⟨_, Or.inl rfl⟩))
  · exact Or.inr (Or.inl rfl)
  · exact Or.inr (Or.inr (Or.inr ⟨_, Or.inl rfl⟩))
  · exact Or.inr (Or.inr (Or.inr ⟨_, Or.inl rfl⟩))
  · exact Or.inr (Or.inr (Or.inr ⟨_, Or.inl rfl⟩))
  · exact Or.inr (Or.inr (Or.inr ⟨_, Or.inl rfl⟩))
  · exact Or.inr (Or.inr (Or.inr ⟨_, Or.inl rfl⟩))
  · exact Or.inr (Or.inr (Or.inr ⟨_, Or.inl rfl⟩))
  · exact Or.inr (Or.inr (Or.inr ⟨_, Or.inl rfl⟩))
  · exact Or.inr (Or.inr (Or.inr ⟨_, Or.inl rfl⟩))
  · exact Or.inr (Or.inr (Or.inr ⟨_, Or.inl rfl⟩))
  · exact Or.inr (Or.inr (Or.inr ⟨_, Or.inl rfl⟩))
  · exact Or.inr (Or.inr (Or.inr ⟨_, Or.inl rfl⟩))
  · exact Or.inr (Or.inr (Or.inr ⟨_, Or.inl rfl⟩))
  · exact Or.inl rfl
  · exact Or.inl rfl
  · exact Or.inl rfl
  · exact Or.inl rfl
  · exact Or.inl rfl
  · exact Or.inl rfl
  · exact Or.inl rfl
  · exact Or.inr (Or.inl rfl)
  · exact Or.inl rfl
  · exact Or.inr (Or.inr (Or.inr ⟨_, Or.inl rfl⟩))
  · exact Or.inr (Or.inr (Or.inr ⟨_, Or.inl rfl⟩))
  · exact Or.inr (Or.inr (Or.inr ⟨_, Or.inl rfl⟩))
  · exact Or.inl rfl
  · exact Or.inl rfl
  · exact Or.inr (Or.inr (Or.inr ⟨_, Or.inl rfl⟩))
  · exact Or.inr (Or.inr (Or.inr ⟨_, Or.inl rfl⟩))
  · exact Or.inr (Or.inr (Or.inr ⟨_, Or.inl rfl⟩))
  · exact Or.inr (Or.inr (Or.inl rfl))
  · exact Or.inl rfl
  · exact Or.inr (Or.inr (Or.inr ⟨_, Or.inl rfl⟩))
  · exact Or.inr (Or.inl rfl)
  · exact Or.inr (Or.inr (Or.inr ⟨_, Or.inl rfl⟩))
  · exact Or.inr (Or.inr (Or.inr ⟨_, Or.inl rfl⟩))
theorem cls_ok {ci : Nat} {C : String} {T : u_T} {N : Nat} (h : vwCl[ci]? = some (C, T, N)) : ClsOK ci C T N ∧ ci < 11 := by
  have hl : ci < 11 := (List.getElem?_eq_some_iff.mp h).1
  refine ⟨?_, hl⟩
  have hc : ci = 0 ∨ ci = 1 ∨ ci = 2 ∨ ci = 3 ∨ ci = 4 ∨ ci = 5 ∨ ci = 6 ∨ ci = 7 ∨ ci = 8 ∨ ci = 9 ∨ ci = 10 := by omega
  rcases hc with rfl | rfl | rfl | rfl | rfl | rfl | rfl | rfl | rfl | rfl | rfl
  · cases h; exact ⟨tyX0, in_0, tyX0_ok, nmX0, fty_0.1, fty_0.2, tyk_0⟩
  · cases h; exact ⟨tyX1, in_1, tyX1_ok, nmX1, fty_1.1, fty_1.2, tyk_1⟩
  · cases h; exact ⟨tyX2, in_2, tyX2_ok, nmX2, fty_2.1, fty_2.2, tyk_2⟩
  · cases h; exact ⟨tyX3, in_3, tyX3_ok, nmX3, fty_3.1, fty_3.2, tyk_3⟩
  · cases h; exact ⟨tyX4, in_4, tyX4_ok, nmX4, fty_4.1, fty_4.2, tyk_4⟩
  · cases h; exact ⟨tyX5, in_5, tyX5_ok, nmX5, fty_5.1, fty_5.2, tyk_5⟩
  · cases h; exact ⟨tyX6, in_6, tyX6_ok, nmX6, fty_6.1, fty_6.2, tyk_6⟩
  · cases h; exact ⟨tyX7, in_7, tyX7_ok, nmX7, fty_7.1, fty_7.2, tyk_7⟩
  · cases h; exact ⟨tyX8, in_8, tyX8_ok, nmX8, fty_8.1, fty_8.2, tyk_8⟩
  · cases h; exact ⟨tyX9, in_9, tyX9_ok, nmX9, fty_9.1, fty_9.2, tyk_9⟩
  · cases h; exact ⟨tyX10, in_10, tyX10_ok, nmX10, fty_10.1, fty_10.2, tyk_10⟩

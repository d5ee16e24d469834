/-! THE ROOM: the rows behind this one take it as the statement names it, whatever its numbers are; these bounds alone are asked of it -/
theorem gRoomC : 600000 ≤ room_1.cells := Nat.le_of_ble_eq_true rfl
theorem gRoomS : 7000000 ≤ room_1.slots := Nat.le_of_ble_eq_true rfl

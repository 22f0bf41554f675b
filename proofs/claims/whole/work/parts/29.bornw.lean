theorem ob0 : qOb RX0 3 := ⟨q_mem 106 (by decide +kernel) (by decide +kernel), q_mem 17 (by decide +kernel) (by decide +kernel), q_mem 18 (by decide +kernel) (by decide +kernel)⟩
theorem fd0_9 : qFd RX0 9 0 0 := ⟨RX0, TX0, 6, rfl, by decide, rfl, fin0, q_mem 107 (by decide +kernel) (by decide +kernel)⟩
theorem fd0_15 : qFd RX0 15 0 1 := ⟨RX0, TX0, 6, rfl, by decide, rfl, fin0, q_mem 109 (by decide +kernel) (by decide +kernel)⟩
theorem fd0_18 : qFd RX0 18 0 2 := ⟨RX0, TX0, 6, rfl, by decide, rfl, fin0, q_mem 111 (by decide +kernel) (by decide +kernel)⟩
theorem fd0_21 : qFd RX0 21 0 3 := ⟨RX0, TX0, 6, rfl, by decide, rfl, fin0, q_mem 112 (by decide +kernel) (by decide +kernel)⟩
theorem ob1 : qOb RX1 3 := ⟨q_mem 134 (by decide +kernel) (by decide +kernel), q_mem 17 (by decide +kernel) (by decide +kernel), q_mem 18 (by decide +kernel) (by decide +kernel)⟩
theorem fd1_9 : qFd RX1 9 1 0 := ⟨RX1, TX1, 3, rfl, by decide, rfl, fin1, q_mem 135 (by decide +kernel) (by decide +kernel)⟩
theorem fd1_15 : qFd RX1 15 1 1 := ⟨RX1, TX1, 3, rfl, by decide, rfl, fin1, q_mem 137 (by decide +kernel) (by decide +kernel)⟩
theorem fd1_19 : qFd RX1 19 1 2 := ⟨RX1, TX1, 3, rfl, by decide, rfl, fin1, q_mem 138 (by decide +kernel) (by decide +kernel)⟩
theorem ob2 : qOb RX2 1 := ⟨q_mem 158 (by decide +kernel) (by decide +kernel), q_mem 17 (by decide +kernel) (by decide +kernel), q_mem 18 (by decide +kernel) (by decide +kernel)⟩
theorem ob3 : qOb RX3 3 := ⟨q_mem 55 (by decide +kernel) (by decide +kernel), q_mem 17 (by decide +kernel) (by decide +kernel), q_mem 18 (by decide +kernel) (by decide +kernel)⟩
theorem fd3_9 : qFd RX3 9 3 0 := ⟨RX3, TX3, 4, rfl, by decide, rfl, fin3, q_mem 56 (by decide +kernel) (by decide +kernel)⟩
theorem fd3_15 : qFd RX3 15 3 1 := ⟨RX3, TX3, 4, rfl, by decide, rfl, fin3, q_mem 58 (by decide +kernel) (by decide +kernel)⟩
theorem ob4 : qOb RX4 3 := ⟨q_mem 152 (by decide +kernel) (by decide +kernel), q_mem 17 (by decide +kernel) (by decide +kernel), q_mem 18 (by decide +kernel) (by decide +kernel)⟩
theorem fd4_9 : qFd RX4 9 4 0 := ⟨RX4, TX4, 12, rfl, by decide, rfl, fin4, q_mem 169 (by decide +kernel) (by decide +kernel)⟩
theorem fd4_15 : qFd RX4 15 4 1 := ⟨RX4, TX4, 12, rfl, by decide, rfl, fin4, q_mem 171 (by decide +kernel) (by decide +kernel)⟩
theorem fd4_18 : qFd RX4 18 4 2 := ⟨RX4, TX4, 12, rfl, by decide, rfl, fin4, q_mem 173 (by decide +kernel) (by decide +kernel)⟩
theorem fd4_21 : qFd RX4 21 4 3 := ⟨RX4, TX4, 12, rfl, by decide, rfl, fin4, q_mem 175 (by decide +kernel) (by decide +kernel)⟩
theorem fd4_25 : qFd RX4 25 4 4 := ⟨RX4, TX4, 12, rfl, by decide, rfl, fin4, q_mem 177 (by decide +kernel) (by decide +kernel)⟩
theorem fd4_28 : qFd RX4 28 4 5 := ⟨RX4, TX4, 12, rfl, by decide, rfl, fin4, q_mem 179 (by decide +kernel) (by decide +kernel)⟩
theorem fd4_31 : qFd RX4 31 4 6 := ⟨RX4, TX4, 12, rfl, by decide, rfl, fin4, q_mem 181 (by decide +kernel) (by decide +kernel)⟩
theorem fd4_34 : qFd RX4 34 4 7 := ⟨RX4, TX4, 12, rfl, by decide, rfl, fin4, q_mem 182 (by decide +kernel) (by decide +kernel)⟩
theorem fd4_37 : qFd RX4 37 4 8 := ⟨RX4, TX4, 12, rfl, by decide, rfl, fin4, q_mem 183 (by decide +kernel) (by decide +kernel)⟩
theorem nw4_40 : qNw RX4 40 2 [.inr 1, .inr 1] := ⟨RX2, TX2, 2, tyX2, rfl, fin2, tyX2_ok, q_mem 153 (by decide +kernel) (by decide +kernel), q_mem 154 (by decide +kernel) (by decide +kernel), q_mem 8 (by decide +kernel) (by decide +kernel), rfl, fun B j hj => match j, hj with | 0, _ => rfl | 1, _ => rfl | j + 2, h => absurd h (by omega)⟩
theorem ld4_42 : qLd RX4 42 0 X2_init := ⟨q_mem 157 (by decide +kernel) (by decide +kernel), q_mem 8 (by decide +kernel) (by decide +kernel), ⟨(by decide +kernel), (by decide +kernel), (by decide +kernel)⟩, by decide, q_mem 155 (by decide +kernel) (by decide +kernel)⟩
theorem fd4_43 : qFd RX4 43 4 9 := ⟨RX4, TX4, 12, rfl, by decide, rfl, fin4, q_mem 184 (by decide +kernel) (by decide +kernel)⟩
theorem ob5 : qOb RX5 3 := ⟨q_mem 77 (by decide +kernel) (by decide +kernel), q_mem 17 (by decide +kernel) (by decide +kernel), q_mem 18 (by decide +kernel) (by decide +kernel)⟩
theorem fd5_9 : qFd RX5 9 5 0 := ⟨RX5, TX5, 7, rfl, by decide, rfl, fin5, q_mem 78 (by decide +kernel) (by decide +kernel)⟩
theorem fd5_15 : qFd RX5 15 5 1 := ⟨RX5, TX5, 7, rfl, by decide, rfl, fin5, q_mem 80 (by decide +kernel) (by decide +kernel)⟩
theorem fd5_18 : qFd RX5 18 5 2 := ⟨RX5, TX5, 7, rfl, by decide, rfl, fin5, q_mem 81 (by decide +kernel) (by decide +kernel)⟩
theorem fd5_21 : qFd RX5 21 5 3 := ⟨RX5, TX5, 7, rfl, by decide, rfl, fin5, q_mem 82 (by decide +kernel) (by decide +kernel)⟩
theorem fd5_24 : qFd RX5 24 5 4 := ⟨RX5, TX5, 7, rfl, by decide, rfl, fin5, q_mem 83 (by decide +kernel) (by decide +kernel)⟩
theorem fd5_27 : qFd RX5 27 5 5 := ⟨RX5, TX5, 7, rfl, by decide, rfl, fin5, q_mem 84 (by decide +kernel) (by decide +kernel)⟩
theorem ob6 : qOb RX6 3 := ⟨q_mem 24 (by decide +kernel) (by decide +kernel), q_mem 17 (by decide +kernel) (by decide +kernel), q_mem 18 (by decide +kernel) (by decide +kernel)⟩
theorem fd6_9 : qFd RX6 9 6 0 := ⟨RX6, TX6, 4, rfl, by decide, rfl, fin6, q_mem 25 (by decide +kernel) (by decide +kernel)⟩
theorem fd6_15 : qFd RX6 15 6 1 := ⟨RX6, TX6, 4, rfl, by decide, rfl, fin6, q_mem 26 (by decide +kernel) (by decide +kernel)⟩
theorem ob7 : qOb RX7 1 := ⟨q_mem 16 (by decide +kernel) (by decide +kernel), q_mem 17 (by decide +kernel) (by decide +kernel), q_mem 18 (by decide +kernel) (by decide +kernel)⟩
theorem nw7_7 : qNw RX7 7 6 [.inl none, .inl none, .inr 0, .inr 0] := ⟨RX6, TX6, 4, tyX6, rfl, fin6, tyX6_ok, q_mem 19 (by decide +kernel) (by decide +kernel), q_mem 20 (by decide +kernel) (by decide +kernel), q_mem 2 (by decide +kernel) (by decide +kernel), rfl, fun B j hj => match j, hj with | 0, _ => rfl | 1, _ => rfl | 2, _ => rfl | 3, _ => rfl | j + 4, h => absurd h (by omega)⟩
theorem ld7_9 : qLd RX7 9 0 X6_init := ⟨q_mem 23 (by decide +kernel) (by decide +kernel), q_mem 2 (by decide +kernel) (by decide +kernel), ⟨(by decide +kernel), (by decide +kernel), (by decide +kernel)⟩, by decide, q_mem 21 (by decide +kernel) (by decide +kernel)⟩
theorem fd7_10 : qFd RX7 10 7 0 := ⟨RX7, TX7, 7, rfl, by decide, rfl, fin7, q_mem 215 (by decide +kernel) (by decide +kernel)⟩
theorem ca7_16 : Cond.classLink RX7 16 qgr ∈ qALL := q_mem 49 (by decide +kernel) (by decide +kernel)
theorem fd7_18 : qFd RX7 18 7 1 := ⟨RX7, TX7, 7, rfl, by decide, rfl, fin7, q_mem 216 (by decide +kernel) (by decide +kernel)⟩
theorem nw7_16 : qNw RX7 16 3 [.inl none, .inl none, .inr 0, .inr 0] := ⟨RX3, TX3, 4, tyX3, rfl, fin3, tyX3_ok, q_mem 49 (by decide +kernel) (by decide +kernel), q_mem 51 (by decide +kernel) (by decide +kernel), q_mem 3 (by decide +kernel) (by decide +kernel), rfl, fun B j hj => match j, hj with | 0, _ => rfl | 1, _ => rfl | 2, _ => rfl | 3, _ => rfl | j + 4, h => absurd h (by omega)⟩
theorem ld7_22 : qLd RX7 22 0 X3_init := ⟨q_mem 54 (by decide +kernel) (by decide +kernel), q_mem 3 (by decide +kernel) (by decide +kernel), ⟨(by decide +kernel), (by decide +kernel), (by decide +kernel)⟩, by decide, q_mem 52 (by decide +kernel) (by decide +kernel)⟩
theorem nw7_23 : qNw RX7 23 5 [.inl none, .inl none, .inl none, .inl none, .inl none, .inl none, .inr 0] := ⟨RX5, TX5, 7, tyX5, rfl, fin5, tyX5_ok, q_mem 72 (by decide +kernel) (by decide +kernel), q_mem 73 (by decide +kernel) (by decide +kernel), q_mem 4 (by decide +kernel) (by decide +kernel), rfl, fun B j hj => match j, hj with | 0, _ => rfl | 1, _ => rfl | 2, _ => rfl | 3, _ => rfl | 4, _ => rfl | 5, _ => rfl | 6, _ => rfl | j + 7, h => absurd h (by omega)⟩
theorem ld7_25 : qLd RX7 25 0 X5_init := ⟨q_mem 76 (by decide +kernel) (by decide +kernel), q_mem 4 (by decide +kernel) (by decide +kernel), ⟨(by decide +kernel), (by decide +kernel), (by decide +kernel)⟩, by decide, q_mem 74 (by decide +kernel) (by decide +kernel)⟩
theorem fd7_26 : qFd RX7 26 7 2 := ⟨RX7, TX7, 7, rfl, by decide, rfl, fin7, q_mem 217 (by decide +kernel) (by decide +kernel)⟩
theorem nw7_30 : qNw RX7 30 0 [.inl none, .inl none, .inl none, .inl none, .inr 0, .inr 0] := ⟨RX0, TX0, 6, tyX0, rfl, fin0, tyX0_ok, q_mem 101 (by decide +kernel) (by decide +kernel), q_mem 102 (by decide +kernel) (by decide +kernel), q_mem 5 (by decide +kernel) (by decide +kernel), rfl, fun B j hj => match j, hj with | 0, _ => rfl | 1, _ => rfl | 2, _ => rfl | 3, _ => rfl | 4, _ => rfl | 5, _ => rfl | j + 6, h => absurd h (by omega)⟩
theorem ld7_32 : qLd RX7 32 0 X0_init := ⟨q_mem 105 (by decide +kernel) (by decide +kernel), q_mem 5 (by decide +kernel) (by decide +kernel), ⟨(by decide +kernel), (by decide +kernel), (by decide +kernel)⟩, by decide, q_mem 103 (by decide +kernel) (by decide +kernel)⟩
theorem fd7_33 : qFd RX7 33 7 3 := ⟨RX7, TX7, 7, rfl, by decide, rfl, fin7, q_mem 218 (by decide +kernel) (by decide +kernel)⟩
theorem nw7_37 : qNw RX7 37 1 [.inl none, .inl none, .inl none] := ⟨RX1, TX1, 3, tyX1, rfl, fin1, tyX1_ok, q_mem 129 (by decide +kernel) (by decide +kernel), q_mem 130 (by decide +kernel) (by decide +kernel), q_mem 6 (by decide +kernel) (by decide +kernel), rfl, fun B j hj => match j, hj with | 0, _ => rfl | 1, _ => rfl | 2, _ => rfl | j + 3, h => absurd h (by omega)⟩
theorem ld7_39 : qLd RX7 39 0 X1_init := ⟨q_mem 133 (by decide +kernel) (by decide +kernel), q_mem 6 (by decide +kernel) (by decide +kernel), ⟨(by decide +kernel), (by decide +kernel), (by decide +kernel)⟩, by decide, q_mem 131 (by decide +kernel) (by decide +kernel)⟩
theorem fd7_40 : qFd RX7 40 7 4 := ⟨RX7, TX7, 7, rfl, by decide, rfl, fin7, q_mem 219 (by decide +kernel) (by decide +kernel)⟩
theorem nw7_44 : qNw RX7 44 4 [.inl none, .inl none, .inl none, .inl none, .inl none, .inl none, .inl none, .inl none, .inl none, .inl none, .inr 0, .inr 0] := ⟨RX4, TX4, 12, tyX4, rfl, fin4, tyX4_ok, q_mem 147 (by decide +kernel) (by decide +kernel), q_mem 148 (by decide +kernel) (by decide +kernel), q_mem 7 (by decide +kernel) (by decide +kernel), rfl, fun B j hj => match j, hj with | 0, _ => rfl | 1, _ => rfl | 2, _ => rfl | 3, _ => rfl | 4, _ => rfl | 5, _ => rfl | 6, _ => rfl | 7, _ => rfl | 8, _ => rfl | 9, _ => rfl | 10, _ => rfl | 11, _ => rfl | j + 12, h => absurd h (by omega)⟩
theorem ld7_46 : qLd RX7 46 0 X4_init := ⟨q_mem 151 (by decide +kernel) (by decide +kernel), q_mem 7 (by decide +kernel) (by decide +kernel), ⟨(by decide +kernel), (by decide +kernel), (by decide +kernel)⟩, by decide, q_mem 149 (by decide +kernel) (by decide +kernel)⟩
theorem fd7_47 : qFd RX7 47 7 5 := ⟨RX7, TX7, 7, rfl, by decide, rfl, fin7, q_mem 220 (by decide +kernel) (by decide +kernel)⟩
theorem nw7_51 : qNw RX7 51 2 [.inr 1, .inr 1] := ⟨RX2, TX2, 2, tyX2, rfl, fin2, tyX2_ok, q_mem 213 (by decide +kernel) (by decide +kernel), q_mem 154 (by decide +kernel) (by decide +kernel), q_mem 8 (by decide +kernel) (by decide +kernel), rfl, fun B j hj => match j, hj with | 0, _ => rfl | 1, _ => rfl | j + 2, h => absurd h (by omega)⟩
theorem ld7_53 : qLd RX7 53 0 X2_init := ⟨q_mem 157 (by decide +kernel) (by decide +kernel), q_mem 8 (by decide +kernel) (by decide +kernel), ⟨(by decide +kernel), (by decide +kernel), (by decide +kernel)⟩, by decide, q_mem 214 (by decide +kernel) (by decide +kernel)⟩
theorem fd7_54 : qFd RX7 54 7 6 := ⟨RX7, TX7, 7, rfl, by decide, rfl, fin7, q_mem 221 (by decide +kernel) (by decide +kernel)⟩
theorem ob8 : qOb RX8 1 := ⟨q_mem 599 (by decide +kernel) (by decide +kernel), q_mem 17 (by decide +kernel) (by decide +kernel), q_mem 18 (by decide +kernel) (by decide +kernel)⟩
theorem fd8_13 : qFd RX8 13 8 2 := ⟨RX8, TX8, 29, rfl, by decide, rfl, fin8, q_mem 602 (by decide +kernel) (by decide +kernel)⟩
theorem fd8_17 : qFd RX8 17 8 3 := ⟨RX8, TX8, 29, rfl, by decide, rfl, fin8, q_mem 603 (by decide +kernel) (by decide +kernel)⟩
theorem fd8_21 : qFd RX8 21 8 4 := ⟨RX8, TX8, 29, rfl, by decide, rfl, fin8, q_mem 604 (by decide +kernel) (by decide +kernel)⟩
theorem fd8_24 : qFd RX8 24 8 5 := ⟨RX8, TX8, 29, rfl, by decide, rfl, fin8, q_mem 605 (by decide +kernel) (by decide +kernel)⟩
theorem fd8_27 : qFd RX8 27 8 7 := ⟨RX8, TX8, 29, rfl, by decide, rfl, fin8, q_mem 607 (by decide +kernel) (by decide +kernel)⟩
theorem fd8_30 : qFd RX8 30 8 10 := ⟨RX8, TX8, 29, rfl, by decide, rfl, fin8, q_mem 610 (by decide +kernel) (by decide +kernel)⟩
theorem fd8_33 : qFd RX8 33 8 11 := ⟨RX8, TX8, 29, rfl, by decide, rfl, fin8, q_mem 611 (by decide +kernel) (by decide +kernel)⟩
theorem fd8_36 : qFd RX8 36 8 12 := ⟨RX8, TX8, 29, rfl, by decide, rfl, fin8, q_mem 612 (by decide +kernel) (by decide +kernel)⟩
theorem fd8_39 : qFd RX8 39 8 13 := ⟨RX8, TX8, 29, rfl, by decide, rfl, fin8, q_mem 613 (by decide +kernel) (by decide +kernel)⟩
theorem fd8_43 : qFd RX8 43 8 14 := ⟨RX8, TX8, 29, rfl, by decide, rfl, fin8, q_mem 614 (by decide +kernel) (by decide +kernel)⟩
theorem fd8_46 : qFd RX8 46 8 15 := ⟨RX8, TX8, 29, rfl, by decide, rfl, fin8, q_mem 615 (by decide +kernel) (by decide +kernel)⟩
theorem fd8_49 : qFd RX8 49 8 16 := ⟨RX8, TX8, 29, rfl, by decide, rfl, fin8, q_mem 616 (by decide +kernel) (by decide +kernel)⟩
theorem fd8_52 : qFd RX8 52 8 17 := ⟨RX8, TX8, 29, rfl, by decide, rfl, fin8, q_mem 617 (by decide +kernel) (by decide +kernel)⟩
theorem fd8_55 : qFd RX8 55 8 18 := ⟨RX8, TX8, 29, rfl, by decide, rfl, fin8, q_mem 618 (by decide +kernel) (by decide +kernel)⟩
theorem fd8_58 : qFd RX8 58 8 19 := ⟨RX8, TX8, 29, rfl, by decide, rfl, fin8, q_mem 619 (by decide +kernel) (by decide +kernel)⟩
theorem fd8_61 : qFd RX8 61 8 20 := ⟨RX8, TX8, 29, rfl, by decide, rfl, fin8, q_mem 620 (by decide +kernel) (by decide +kernel)⟩
theorem fd8_64 : qFd RX8 64 8 21 := ⟨RX8, TX8, 29, rfl, by decide, rfl, fin8, q_mem 621 (by decide +kernel) (by decide +kernel)⟩
theorem fd8_67 : qFd RX8 67 8 24 := ⟨RX8, TX8, 29, rfl, by decide, rfl, fin8, q_mem 624 (by decide +kernel) (by decide +kernel)⟩
theorem fd8_70 : qFd RX8 70 8 25 := ⟨RX8, TX8, 29, rfl, by decide, rfl, fin8, q_mem 625 (by decide +kernel) (by decide +kernel)⟩
theorem fd8_73 : qFd RX8 73 8 26 := ⟨RX8, TX8, 29, rfl, by decide, rfl, fin8, q_mem 626 (by decide +kernel) (by decide +kernel)⟩
theorem fd8_76 : qFd RX8 76 8 27 := ⟨RX8, TX8, 29, rfl, by decide, rfl, fin8, q_mem 627 (by decide +kernel) (by decide +kernel)⟩
theorem fd8_79 : qFd RX8 79 8 28 := ⟨RX8, TX8, 29, rfl, by decide, rfl, fin8, q_mem 628 (by decide +kernel) (by decide +kernel)⟩
theorem nwL_7 : qNw RL 7 7 [.inl none, .inl none, .inl none, .inl none, .inl none, .inl none, .inl none] := ⟨RX7, TX7, 7, tyX7, rfl, fin7, tyX7_ok, q_mem 11 (by decide +kernel) (by decide +kernel), q_mem 12 (by decide +kernel) (by decide +kernel), q_mem 1 (by decide +kernel) (by decide +kernel), rfl, fun B j hj => match j, hj with | 0, _ => rfl | 1, _ => rfl | 2, _ => rfl | 3, _ => rfl | 4, _ => rfl | 5, _ => rfl | 6, _ => rfl | j + 7, h => absurd h (by omega)⟩
theorem ldL_9 : qLd RL 9 0 X7_init := ⟨q_mem 15 (by decide +kernel) (by decide +kernel), q_mem 1 (by decide +kernel) (by decide +kernel), ⟨(by decide +kernel), (by decide +kernel), (by decide +kernel)⟩, by decide, q_mem 13 (by decide +kernel) (by decide +kernel)⟩
theorem nwL_10 : qNw RL 10 8 [.inr 0, .inr 0, .inl none, .inl none, .inl none, .inl none, .inr 0, .inl none, .inr 2, .inr 0, .inl none, .inl none, .inl none, .inl none, .inl none, .inl none, .inl none, .inl none, .inl none, .inl none, .inl none, .inl none, .inr 1, .inr 1, .inl none, .inl none, .inl none, .inl none, .inl none] := ⟨RX8, TX8, 29, tyX8, rfl, fin8, tyX8_ok, q_mem 594 (by decide +kernel) (by decide +kernel), q_mem 595 (by decide +kernel) (by decide +kernel), q_mem 9 (by decide +kernel) (by decide +kernel), rfl, fun B j hj => match j, hj with | 0, _ => rfl | 1, _ => rfl | 2, _ => rfl | 3, _ => rfl | 4, _ => rfl | 5, _ => rfl | 6, _ => rfl | 7, _ => rfl | 8, _ => rfl | 9, _ => rfl | 10, _ => rfl | 11, _ => rfl | 12, _ => rfl | 13, _ => rfl | 14, _ => rfl | 15, _ => rfl | 16, _ => rfl | 17, _ => rfl | 18, _ => rfl | 19, _ => rfl | 20, _ => rfl | 21, _ => rfl | 22, _ => rfl | 23, _ => rfl | 24, _ => rfl | 25, _ => rfl | 26, _ => rfl | 27, _ => rfl | 28, _ => rfl | j + 29, h => absurd h (by omega)⟩
theorem ldL_12 : qLd RL 12 0 X8_init := ⟨q_mem 598 (by decide +kernel) (by decide +kernel), q_mem 9 (by decide +kernel) (by decide +kernel), ⟨(by decide +kernel), (by decide +kernel), (by decide +kernel)⟩, by decide, q_mem 596 (by decide +kernel) (by decide +kernel)⟩

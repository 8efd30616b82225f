/-! pure rows: numbers, the combinators, single bytes -/
theorem on_eq {α β : Type} (x : α) (k : α → Option β) : on x k = k x := rfl
theorem ob0_s {β : Type} (k : Option β) : ob0 (some ()) k = k := rfl
theorem ob1_s {T0 β : Type} (v0 : T0) (k : T0 → Option β) : ob1 (some v0) k = k v0 := rfl
theorem ob2_s {T0 T1 β : Type} (v0 : T0) (v1 : T1) (k : T0 → T1 → Option β) : ob2 (some (v0, v1)) k = k v0 v1 := rfl
theorem ob3_s {T0 T1 T2 β : Type} (v0 : T0) (v1 : T1) (v2 : T2) (k : T0 → T1 → T2 → Option β) : ob3 (some (v0, v1, v2)) k = k v0 v1 v2 := rfl
theorem ob4_s {T0 T1 T2 T3 β : Type} (v0 : T0) (v1 : T1) (v2 : T2) (v3 : T3) (k : T0 → T1 → T2 → T3 → Option β) : ob4 (some (v0, v1, v2, v3)) k = k v0 v1 v2 v3 := rfl
theorem ob5_s {T0 T1 T2 T3 T4 β : Type} (v0 : T0) (v1 : T1) (v2 : T2) (v3 : T3) (v4 : T4) (k : T0 → T1 → T2 → T3 → T4 → Option β) : ob5 (some (v0, v1, v2, v3, v4)) k = k v0 v1 v2 v3 v4 := rfl
theorem ob6_s {T0 T1 T2 T3 T4 T5 β : Type} (v0 : T0) (v1 : T1) (v2 : T2) (v3 : T3) (v4 : T4) (v5 : T5) (k : T0 → T1 → T2 → T3 → T4 → T5 → Option β) : ob6 (some (v0, v1, v2, v3, v4, v5)) k = k v0 v1 v2 v3 v4 v5 := rfl
theorem ob7_s {T0 T1 T2 T3 T4 T5 T6 β : Type} (v0 : T0) (v1 : T1) (v2 : T2) (v3 : T3) (v4 : T4) (v5 : T5) (v6 : T6) (k : T0 → T1 → T2 → T3 → T4 → T5 → T6 → Option β) : ob7 (some (v0, v1, v2, v3, v4, v5, v6)) k = k v0 v1 v2 v3 v4 v5 v6 := rfl
theorem ob8_s {T0 T1 T2 T3 T4 T5 T6 T7 β : Type} (v0 : T0) (v1 : T1) (v2 : T2) (v3 : T3) (v4 : T4) (v5 : T5) (v6 : T6) (v7 : T7) (k : T0 → T1 → T2 → T3 → T4 → T5 → T6 → T7 → Option β) : ob8 (some (v0, v1, v2, v3, v4, v5, v6, v7)) k = k v0 v1 v2 v3 v4 v5 v6 v7 := rfl
theorem ob9_s {T0 T1 T2 T3 T4 T5 T6 T7 T8 β : Type} (v0 : T0) (v1 : T1) (v2 : T2) (v3 : T3) (v4 : T4) (v5 : T5) (v6 : T6) (v7 : T7) (v8 : T8) (k : T0 → T1 → T2 → T3 → T4 → T5 → T6 → T7 → T8 → Option β) : ob9 (some (v0, v1, v2, v3, v4, v5, v6, v7, v8)) k = k v0 v1 v2 v3 v4 v5 v6 v7 v8 := rfl
theorem ob10_s {T0 T1 T2 T3 T4 T5 T6 T7 T8 T9 β : Type} (v0 : T0) (v1 : T1) (v2 : T2) (v3 : T3) (v4 : T4) (v5 : T5) (v6 : T6) (v7 : T7) (v8 : T8) (v9 : T9) (k : T0 → T1 → T2 → T3 → T4 → T5 → T6 → T7 → T8 → T9 → Option β) : ob10 (some (v0, v1, v2, v3, v4, v5, v6, v7, v8, v9)) k = k v0 v1 v2 v3 v4 v5 v6 v7 v8 v9 := rfl
theorem ob11_s {T0 T1 T2 T3 T4 T5 T6 T7 T8 T9 T10 β : Type} (v0 : T0) (v1 : T1) (v2 : T2) (v3 : T3) (v4 : T4) (v5 : T5) (v6 : T6) (v7 : T7) (v8 : T8) (v9 : T9) (v10 : T10) (k : T0 → T1 → T2 → T3 → T4 → T5 → T6 → T7 → T8 → T9 → T10 → Option β) : ob11 (some (v0, v1, v2, v3, v4, v5, v6, v7, v8, v9, v10)) k = k v0 v1 v2 v3 v4 v5 v6 v7 v8 v9 v10 := rfl
theorem ob12_s {T0 T1 T2 T3 T4 T5 T6 T7 T8 T9 T10 T11 β : Type} (v0 : T0) (v1 : T1) (v2 : T2) (v3 : T3) (v4 : T4) (v5 : T5) (v6 : T6) (v7 : T7) (v8 : T8) (v9 : T9) (v10 : T10) (v11 : T11) (k : T0 → T1 → T2 → T3 → T4 → T5 → T6 → T7 → T8 → T9 → T10 → T11 → Option β) : ob12 (some (v0, v1, v2, v3, v4, v5, v6, v7, v8, v9, v10, v11)) k = k v0 v1 v2 v3 v4 v5 v6 v7 v8 v9 v10 v11 := rfl
theorem ob13_s {T0 T1 T2 T3 T4 T5 T6 T7 T8 T9 T10 T11 T12 β : Type} (v0 : T0) (v1 : T1) (v2 : T2) (v3 : T3) (v4 : T4) (v5 : T5) (v6 : T6) (v7 : T7) (v8 : T8) (v9 : T9) (v10 : T10) (v11 : T11) (v12 : T12) (k : T0 → T1 → T2 → T3 → T4 → T5 → T6 → T7 → T8 → T9 → T10 → T11 → T12 → Option β) : ob13 (some (v0, v1, v2, v3, v4, v5, v6, v7, v8, v9, v10, v11, v12)) k = k v0 v1 v2 v3 v4 v5 v6 v7 v8 v9 v10 v11 v12 := rfl
theorem ob14_s {T0 T1 T2 T3 T4 T5 T6 T7 T8 T9 T10 T11 T12 T13 β : Type} (v0 : T0) (v1 : T1) (v2 : T2) (v3 : T3) (v4 : T4) (v5 : T5) (v6 : T6) (v7 : T7) (v8 : T8) (v9 : T9) (v10 : T10) (v11 : T11) (v12 : T12) (v13 : T13) (k : T0 → T1 → T2 → T3 → T4 → T5 → T6 → T7 → T8 → T9 → T10 → T11 → T12 → T13 → Option β) : ob14 (some (v0, v1, v2, v3, v4, v5, v6, v7, v8, v9, v10, v11, v12, v13)) k = k v0 v1 v2 v3 v4 v5 v6 v7 v8 v9 v10 v11 v12 v13 := rfl
theorem ob15_s {T0 T1 T2 T3 T4 T5 T6 T7 T8 T9 T10 T11 T12 T13 T14 β : Type} (v0 : T0) (v1 : T1) (v2 : T2) (v3 : T3) (v4 : T4) (v5 : T5) (v6 : T6) (v7 : T7) (v8 : T8) (v9 : T9) (v10 : T10) (v11 : T11) (v12 : T12) (v13 : T13) (v14 : T14) (k : T0 → T1 → T2 → T3 → T4 → T5 → T6 → T7 → T8 → T9 → T10 → T11 → T12 → T13 → T14 → Option β) : ob15 (some (v0, v1, v2, v3, v4, v5, v6, v7, v8, v9, v10, v11, v12, v13, v14)) k = k v0 v1 v2 v3 v4 v5 v6 v7 v8 v9 v10 v11 v12 v13 v14 := rfl
theorem ob16_s {T0 T1 T2 T3 T4 T5 T6 T7 T8 T9 T10 T11 T12 T13 T14 T15 β : Type} (v0 : T0) (v1 : T1) (v2 : T2) (v3 : T3) (v4 : T4) (v5 : T5) (v6 : T6) (v7 : T7) (v8 : T8) (v9 : T9) (v10 : T10) (v11 : T11) (v12 : T12) (v13 : T13) (v14 : T14) (v15 : T15) (k : T0 → T1 → T2 → T3 → T4 → T5 → T6 → T7 → T8 → T9 → T10 → T11 → T12 → T13 → T14 → T15 → Option β) : ob16 (some (v0, v1, v2, v3, v4, v5, v6, v7, v8, v9, v10, v11, v12, v13, v14, v15)) k = k v0 v1 v2 v3 v4 v5 v6 v7 v8 v9 v10 v11 v12 v13 v14 v15 := rfl
theorem ob17_s {T0 T1 T2 T3 T4 T5 T6 T7 T8 T9 T10 T11 T12 T13 T14 T15 T16 β : Type} (v0 : T0) (v1 : T1) (v2 : T2) (v3 : T3) (v4 : T4) (v5 : T5) (v6 : T6) (v7 : T7) (v8 : T8) (v9 : T9) (v10 : T10) (v11 : T11) (v12 : T12) (v13 : T13) (v14 : T14) (v15 : T15) (v16 : T16) (k : T0 → T1 → T2 → T3 → T4 → T5 → T6 → T7 → T8 → T9 → T10 → T11 → T12 → T13 → T14 → T15 → T16 → Option β) : ob17 (some (v0, v1, v2, v3, v4, v5, v6, v7, v8, v9, v10, v11, v12, v13, v14, v15, v16)) k = k v0 v1 v2 v3 v4 v5 v6 v7 v8 v9 v10 v11 v12 v13 v14 v15 v16 := rfl
theorem ob18_s {T0 T1 T2 T3 T4 T5 T6 T7 T8 T9 T10 T11 T12 T13 T14 T15 T16 T17 β : Type} (v0 : T0) (v1 : T1) (v2 : T2) (v3 : T3) (v4 : T4) (v5 : T5) (v6 : T6) (v7 : T7) (v8 : T8) (v9 : T9) (v10 : T10) (v11 : T11) (v12 : T12) (v13 : T13) (v14 : T14) (v15 : T15) (v16 : T16) (v17 : T17) (k : T0 → T1 → T2 → T3 → T4 → T5 → T6 → T7 → T8 → T9 → T10 → T11 → T12 → T13 → T14 → T15 → T16 → T17 → Option β) : ob18 (some (v0, v1, v2, v3, v4, v5, v6, v7, v8, v9, v10, v11, v12, v13, v14, v15, v16, v17)) k = k v0 v1 v2 v3 v4 v5 v6 v7 v8 v9 v10 v11 v12 v13 v14 v15 v16 v17 := rfl
theorem ob19_s {T0 T1 T2 T3 T4 T5 T6 T7 T8 T9 T10 T11 T12 T13 T14 T15 T16 T17 T18 β : Type} (v0 : T0) (v1 : T1) (v2 : T2) (v3 : T3) (v4 : T4) (v5 : T5) (v6 : T6) (v7 : T7) (v8 : T8) (v9 : T9) (v10 : T10) (v11 : T11) (v12 : T12) (v13 : T13) (v14 : T14) (v15 : T15) (v16 : T16) (v17 : T17) (v18 : T18) (k : T0 → T1 → T2 → T3 → T4 → T5 → T6 → T7 → T8 → T9 → T10 → T11 → T12 → T13 → T14 → T15 → T16 → T17 → T18 → Option β) : ob19 (some (v0, v1, v2, v3, v4, v5, v6, v7, v8, v9, v10, v11, v12, v13, v14, v15, v16, v17, v18)) k = k v0 v1 v2 v3 v4 v5 v6 v7 v8 v9 v10 v11 v12 v13 v14 v15 v16 v17 v18 := rfl
theorem ob20_s {T0 T1 T2 T3 T4 T5 T6 T7 T8 T9 T10 T11 T12 T13 T14 T15 T16 T17 T18 T19 β : Type} (v0 : T0) (v1 : T1) (v2 : T2) (v3 : T3) (v4 : T4) (v5 : T5) (v6 : T6) (v7 : T7) (v8 : T8) (v9 : T9) (v10 : T10) (v11 : T11) (v12 : T12) (v13 : T13) (v14 : T14) (v15 : T15) (v16 : T16) (v17 : T17) (v18 : T18) (v19 : T19) (k : T0 → T1 → T2 → T3 → T4 → T5 → T6 → T7 → T8 → T9 → T10 → T11 → T12 → T13 → T14 → T15 → T16 → T17 → T18 → T19 → Option β) : ob20 (some (v0, v1, v2, v3, v4, v5, v6, v7, v8, v9, v10, v11, v12, v13, v14, v15, v16, v17, v18, v19)) k = k v0 v1 v2 v3 v4 v5 v6 v7 v8 v9 v10 v11 v12 v13 v14 v15 v16 v17 v18 v19 := rfl
theorem ob21_s {T0 T1 T2 T3 T4 T5 T6 T7 T8 T9 T10 T11 T12 T13 T14 T15 T16 T17 T18 T19 T20 β : Type} (v0 : T0) (v1 : T1) (v2 : T2) (v3 : T3) (v4 : T4) (v5 : T5) (v6 : T6) (v7 : T7) (v8 : T8) (v9 : T9) (v10 : T10) (v11 : T11) (v12 : T12) (v13 : T13) (v14 : T14) (v15 : T15) (v16 : T16) (v17 : T17) (v18 : T18) (v19 : T19) (v20 : T20) (k : T0 → T1 → T2 → T3 → T4 → T5 → T6 → T7 → T8 → T9 → T10 → T11 → T12 → T13 → T14 → T15 → T16 → T17 → T18 → T19 → T20 → Option β) : ob21 (some (v0, v1, v2, v3, v4, v5, v6, v7, v8, v9, v10, v11, v12, v13, v14, v15, v16, v17, v18, v19, v20)) k = k v0 v1 v2 v3 v4 v5 v6 v7 v8 v9 v10 v11 v12 v13 v14 v15 v16 v17 v18 v19 v20 := rfl
theorem ob22_s {T0 T1 T2 T3 T4 T5 T6 T7 T8 T9 T10 T11 T12 T13 T14 T15 T16 T17 T18 T19 T20 T21 β : Type} (v0 : T0) (v1 : T1) (v2 : T2) (v3 : T3) (v4 : T4) (v5 : T5) (v6 : T6) (v7 : T7) (v8 : T8) (v9 : T9) (v10 : T10) (v11 : T11) (v12 : T12) (v13 : T13) (v14 : T14) (v15 : T15) (v16 : T16) (v17 : T17) (v18 : T18) (v19 : T19) (v20 : T20) (v21 : T21) (k : T0 → T1 → T2 → T3 → T4 → T5 → T6 → T7 → T8 → T9 → T10 → T11 → T12 → T13 → T14 → T15 → T16 → T17 → T18 → T19 → T20 → T21 → Option β) : ob22 (some (v0, v1, v2, v3, v4, v5, v6, v7, v8, v9, v10, v11, v12, v13, v14, v15, v16, v17, v18, v19, v20, v21)) k = k v0 v1 v2 v3 v4 v5 v6 v7 v8 v9 v10 v11 v12 v13 v14 v15 v16 v17 v18 v19 v20 v21 := rfl
theorem ob23_s {T0 T1 T2 T3 T4 T5 T6 T7 T8 T9 T10 T11 T12 T13 T14 T15 T16 T17 T18 T19 T20 T21 T22 β : Type} (v0 : T0) (v1 : T1) (v2 : T2) (v3 : T3) (v4 : T4) (v5 : T5) (v6 : T6) (v7 : T7) (v8 : T8) (v9 : T9) (v10 : T10) (v11 : T11) (v12 : T12) (v13 : T13) (v14 : T14) (v15 : T15) (v16 : T16) (v17 : T17) (v18 : T18) (v19 : T19) (v20 : T20) (v21 : T21) (v22 : T22) (k : T0 → T1 → T2 → T3 → T4 → T5 → T6 → T7 → T8 → T9 → T10 → T11 → T12 → T13 → T14 → T15 → T16 → T17 → T18 → T19 → T20 → T21 → T22 → Option β) : ob23 (some (v0, v1, v2, v3, v4, v5, v6, v7, v8, v9, v10, v11, v12, v13, v14, v15, v16, v17, v18, v19, v20, v21, v22)) k = k v0 v1 v2 v3 v4 v5 v6 v7 v8 v9 v10 v11 v12 v13 v14 v15 v16 v17 v18 v19 v20 v21 v22 := rfl
theorem ob24_s {T0 T1 T2 T3 T4 T5 T6 T7 T8 T9 T10 T11 T12 T13 T14 T15 T16 T17 T18 T19 T20 T21 T22 T23 β : Type} (v0 : T0) (v1 : T1) (v2 : T2) (v3 : T3) (v4 : T4) (v5 : T5) (v6 : T6) (v7 : T7) (v8 : T8) (v9 : T9) (v10 : T10) (v11 : T11) (v12 : T12) (v13 : T13) (v14 : T14) (v15 : T15) (v16 : T16) (v17 : T17) (v18 : T18) (v19 : T19) (v20 : T20) (v21 : T21) (v22 : T22) (v23 : T23) (k : T0 → T1 → T2 → T3 → T4 → T5 → T6 → T7 → T8 → T9 → T10 → T11 → T12 → T13 → T14 → T15 → T16 → T17 → T18 → T19 → T20 → T21 → T22 → T23 → Option β) : ob24 (some (v0, v1, v2, v3, v4, v5, v6, v7, v8, v9, v10, v11, v12, v13, v14, v15, v16, v17, v18, v19, v20, v21, v22, v23)) k = k v0 v1 v2 v3 v4 v5 v6 v7 v8 v9 v10 v11 v12 v13 v14 v15 v16 v17 v18 v19 v20 v21 v22 v23 := rfl
theorem ob25_s {T0 T1 T2 T3 T4 T5 T6 T7 T8 T9 T10 T11 T12 T13 T14 T15 T16 T17 T18 T19 T20 T21 T22 T23 T24 β : Type} (v0 : T0) (v1 : T1) (v2 : T2) (v3 : T3) (v4 : T4) (v5 : T5) (v6 : T6) (v7 : T7) (v8 : T8) (v9 : T9) (v10 : T10) (v11 : T11) (v12 : T12) (v13 : T13) (v14 : T14) (v15 : T15) (v16 : T16) (v17 : T17) (v18 : T18) (v19 : T19) (v20 : T20) (v21 : T21) (v22 : T22) (v23 : T23) (v24 : T24) (k : T0 → T1 → T2 → T3 → T4 → T5 → T6 → T7 → T8 → T9 → T10 → T11 → T12 → T13 → T14 → T15 → T16 → T17 → T18 → T19 → T20 → T21 → T22 → T23 → T24 → Option β) : ob25 (some (v0, v1, v2, v3, v4, v5, v6, v7, v8, v9, v10, v11, v12, v13, v14, v15, v16, v17, v18, v19, v20, v21, v22, v23, v24)) k = k v0 v1 v2 v3 v4 v5 v6 v7 v8 v9 v10 v11 v12 v13 v14 v15 v16 v17 v18 v19 v20 v21 v22 v23 v24 := rfl
theorem ob26_s {T0 T1 T2 T3 T4 T5 T6 T7 T8 T9 T10 T11 T12 T13 T14 T15 T16 T17 T18 T19 T20 T21 T22 T23 T24 T25 β : Type} (v0 : T0) (v1 : T1) (v2 : T2) (v3 : T3) (v4 : T4) (v5 : T5) (v6 : T6) (v7 : T7) (v8 : T8) (v9 : T9) (v10 : T10) (v11 : T11) (v12 : T12) (v13 : T13) (v14 : T14) (v15 : T15) (v16 : T16) (v17 : T17) (v18 : T18) (v19 : T19) (v20 : T20) (v21 : T21) (v22 : T22) (v23 : T23) (v24 : T24) (v25 : T25) (k : T0 → T1 → T2 → T3 → T4 → T5 → T6 → T7 → T8 → T9 → T10 → T11 → T12 → T13 → T14 → T15 → T16 → T17 → T18 → T19 → T20 → T21 → T22 → T23 → T24 → T25 → Option β) : ob26 (some (v0, v1, v2, v3, v4, v5, v6, v7, v8, v9, v10, v11, v12, v13, v14, v15, v16, v17, v18, v19, v20, v21, v22, v23, v24, v25)) k = k v0 v1 v2 v3 v4 v5 v6 v7 v8 v9 v10 v11 v12 v13 v14 v15 v16 v17 v18 v19 v20 v21 v22 v23 v24 v25 := rfl
theorem ob27_s {T0 T1 T2 T3 T4 T5 T6 T7 T8 T9 T10 T11 T12 T13 T14 T15 T16 T17 T18 T19 T20 T21 T22 T23 T24 T25 T26 β : Type} (v0 : T0) (v1 : T1) (v2 : T2) (v3 : T3) (v4 : T4) (v5 : T5) (v6 : T6) (v7 : T7) (v8 : T8) (v9 : T9) (v10 : T10) (v11 : T11) (v12 : T12) (v13 : T13) (v14 : T14) (v15 : T15) (v16 : T16) (v17 : T17) (v18 : T18) (v19 : T19) (v20 : T20) (v21 : T21) (v22 : T22) (v23 : T23) (v24 : T24) (v25 : T25) (v26 : T26) (k : T0 → T1 → T2 → T3 → T4 → T5 → T6 → T7 → T8 → T9 → T10 → T11 → T12 → T13 → T14 → T15 → T16 → T17 → T18 → T19 → T20 → T21 → T22 → T23 → T24 → T25 → T26 → Option β) : ob27 (some (v0, v1, v2, v3, v4, v5, v6, v7, v8, v9, v10, v11, v12, v13, v14, v15, v16, v17, v18, v19, v20, v21, v22, v23, v24, v25, v26)) k = k v0 v1 v2 v3 v4 v5 v6 v7 v8 v9 v10 v11 v12 v13 v14 v15 v16 v17 v18 v19 v20 v21 v22 v23 v24 v25 v26 := rfl
theorem ob28_s {T0 T1 T2 T3 T4 T5 T6 T7 T8 T9 T10 T11 T12 T13 T14 T15 T16 T17 T18 T19 T20 T21 T22 T23 T24 T25 T26 T27 β : Type} (v0 : T0) (v1 : T1) (v2 : T2) (v3 : T3) (v4 : T4) (v5 : T5) (v6 : T6) (v7 : T7) (v8 : T8) (v9 : T9) (v10 : T10) (v11 : T11) (v12 : T12) (v13 : T13) (v14 : T14) (v15 : T15) (v16 : T16) (v17 : T17) (v18 : T18) (v19 : T19) (v20 : T20) (v21 : T21) (v22 : T22) (v23 : T23) (v24 : T24) (v25 : T25) (v26 : T26) (v27 : T27) (k : T0 → T1 → T2 → T3 → T4 → T5 → T6 → T7 → T8 → T9 → T10 → T11 → T12 → T13 → T14 → T15 → T16 → T17 → T18 → T19 → T20 → T21 → T22 → T23 → T24 → T25 → T26 → T27 → Option β) : ob28 (some (v0, v1, v2, v3, v4, v5, v6, v7, v8, v9, v10, v11, v12, v13, v14, v15, v16, v17, v18, v19, v20, v21, v22, v23, v24, v25, v26, v27)) k = k v0 v1 v2 v3 v4 v5 v6 v7 v8 v9 v10 v11 v12 v13 v14 v15 v16 v17 v18 v19 v20 v21 v22 v23 v24 v25 v26 v27 := rfl
theorem ob29_s {T0 T1 T2 T3 T4 T5 T6 T7 T8 T9 T10 T11 T12 T13 T14 T15 T16 T17 T18 T19 T20 T21 T22 T23 T24 T25 T26 T27 T28 β : Type} (v0 : T0) (v1 : T1) (v2 : T2) (v3 : T3) (v4 : T4) (v5 : T5) (v6 : T6) (v7 : T7) (v8 : T8) (v9 : T9) (v10 : T10) (v11 : T11) (v12 : T12) (v13 : T13) (v14 : T14) (v15 : T15) (v16 : T16) (v17 : T17) (v18 : T18) (v19 : T19) (v20 : T20) (v21 : T21) (v22 : T22) (v23 : T23) (v24 : T24) (v25 : T25) (v26 : T26) (v27 : T27) (v28 : T28) (k : T0 → T1 → T2 → T3 → T4 → T5 → T6 → T7 → T8 → T9 → T10 → T11 → T12 → T13 → T14 → T15 → T16 → T17 → T18 → T19 → T20 → T21 → T22 → T23 → T24 → T25 → T26 → T27 → T28 → Option β) : ob29 (some (v0, v1, v2, v3, v4, v5, v6, v7, v8, v9, v10, v11, v12, v13, v14, v15, v16, v17, v18, v19, v20, v21, v22, v23, v24, v25, v26, v27, v28)) k = k v0 v1 v2 v3 v4 v5 v6 v7 v8 v9 v10 v11 v12 v13 v14 v15 v16 v17 v18 v19 v20 v21 v22 v23 v24 v25 v26 v27 v28 := rfl
theorem ob30_s {T0 T1 T2 T3 T4 T5 T6 T7 T8 T9 T10 T11 T12 T13 T14 T15 T16 T17 T18 T19 T20 T21 T22 T23 T24 T25 T26 T27 T28 T29 β : Type} (v0 : T0) (v1 : T1) (v2 : T2) (v3 : T3) (v4 : T4) (v5 : T5) (v6 : T6) (v7 : T7) (v8 : T8) (v9 : T9) (v10 : T10) (v11 : T11) (v12 : T12) (v13 : T13) (v14 : T14) (v15 : T15) (v16 : T16) (v17 : T17) (v18 : T18) (v19 : T19) (v20 : T20) (v21 : T21) (v22 : T22) (v23 : T23) (v24 : T24) (v25 : T25) (v26 : T26) (v27 : T27) (v28 : T28) (v29 : T29) (k : T0 → T1 → T2 → T3 → T4 → T5 → T6 → T7 → T8 → T9 → T10 → T11 → T12 → T13 → T14 → T15 → T16 → T17 → T18 → T19 → T20 → T21 → T22 → T23 → T24 → T25 → T26 → T27 → T28 → T29 → Option β) : ob30 (some (v0, v1, v2, v3, v4, v5, v6, v7, v8, v9, v10, v11, v12, v13, v14, v15, v16, v17, v18, v19, v20, v21, v22, v23, v24, v25, v26, v27, v28, v29)) k = k v0 v1 v2 v3 v4 v5 v6 v7 v8 v9 v10 v11 v12 v13 v14 v15 v16 v17 v18 v19 v20 v21 v22 v23 v24 v25 v26 v27 v28 v29 := rfl
theorem ob31_s {T0 T1 T2 T3 T4 T5 T6 T7 T8 T9 T10 T11 T12 T13 T14 T15 T16 T17 T18 T19 T20 T21 T22 T23 T24 T25 T26 T27 T28 T29 T30 β : Type} (v0 : T0) (v1 : T1) (v2 : T2) (v3 : T3) (v4 : T4) (v5 : T5) (v6 : T6) (v7 : T7) (v8 : T8) (v9 : T9) (v10 : T10) (v11 : T11) (v12 : T12) (v13 : T13) (v14 : T14) (v15 : T15) (v16 : T16) (v17 : T17) (v18 : T18) (v19 : T19) (v20 : T20) (v21 : T21) (v22 : T22) (v23 : T23) (v24 : T24) (v25 : T25) (v26 : T26) (v27 : T27) (v28 : T28) (v29 : T29) (v30 : T30) (k : T0 → T1 → T2 → T3 → T4 → T5 → T6 → T7 → T8 → T9 → T10 → T11 → T12 → T13 → T14 → T15 → T16 → T17 → T18 → T19 → T20 → T21 → T22 → T23 → T24 → T25 → T26 → T27 → T28 → T29 → T30 → Option β) : ob31 (some (v0, v1, v2, v3, v4, v5, v6, v7, v8, v9, v10, v11, v12, v13, v14, v15, v16, v17, v18, v19, v20, v21, v22, v23, v24, v25, v26, v27, v28, v29, v30)) k = k v0 v1 v2 v3 v4 v5 v6 v7 v8 v9 v10 v11 v12 v13 v14 v15 v16 v17 v18 v19 v20 v21 v22 v23 v24 v25 v26 v27 v28 v29 v30 := rfl
theorem ob32_s {T0 T1 T2 T3 T4 T5 T6 T7 T8 T9 T10 T11 T12 T13 T14 T15 T16 T17 T18 T19 T20 T21 T22 T23 T24 T25 T26 T27 T28 T29 T30 T31 β : Type} (v0 : T0) (v1 : T1) (v2 : T2) (v3 : T3) (v4 : T4) (v5 : T5) (v6 : T6) (v7 : T7) (v8 : T8) (v9 : T9) (v10 : T10) (v11 : T11) (v12 : T12) (v13 : T13) (v14 : T14) (v15 : T15) (v16 : T16) (v17 : T17) (v18 : T18) (v19 : T19) (v20 : T20) (v21 : T21) (v22 : T22) (v23 : T23) (v24 : T24) (v25 : T25) (v26 : T26) (v27 : T27) (v28 : T28) (v29 : T29) (v30 : T30) (v31 : T31) (k : T0 → T1 → T2 → T3 → T4 → T5 → T6 → T7 → T8 → T9 → T10 → T11 → T12 → T13 → T14 → T15 → T16 → T17 → T18 → T19 → T20 → T21 → T22 → T23 → T24 → T25 → T26 → T27 → T28 → T29 → T30 → T31 → Option β) : ob32 (some (v0, v1, v2, v3, v4, v5, v6, v7, v8, v9, v10, v11, v12, v13, v14, v15, v16, v17, v18, v19, v20, v21, v22, v23, v24, v25, v26, v27, v28, v29, v30, v31)) k = k v0 v1 v2 v3 v4 v5 v6 v7 v8 v9 v10 v11 v12 v13 v14 v15 v16 v17 v18 v19 v20 v21 v22 v23 v24 v25 v26 v27 v28 v29 v30 v31 := rfl
theorem ob33_s {T0 T1 T2 T3 T4 T5 T6 T7 T8 T9 T10 T11 T12 T13 T14 T15 T16 T17 T18 T19 T20 T21 T22 T23 T24 T25 T26 T27 T28 T29 T30 T31 T32 β : Type} (v0 : T0) (v1 : T1) (v2 : T2) (v3 : T3) (v4 : T4) (v5 : T5) (v6 : T6) (v7 : T7) (v8 : T8) (v9 : T9) (v10 : T10) (v11 : T11) (v12 : T12) (v13 : T13) (v14 : T14) (v15 : T15) (v16 : T16) (v17 : T17) (v18 : T18) (v19 : T19) (v20 : T20) (v21 : T21) (v22 : T22) (v23 : T23) (v24 : T24) (v25 : T25) (v26 : T26) (v27 : T27) (v28 : T28) (v29 : T29) (v30 : T30) (v31 : T31) (v32 : T32) (k : T0 → T1 → T2 → T3 → T4 → T5 → T6 → T7 → T8 → T9 → T10 → T11 → T12 → T13 → T14 → T15 → T16 → T17 → T18 → T19 → T20 → T21 → T22 → T23 → T24 → T25 → T26 → T27 → T28 → T29 → T30 → T31 → T32 → Option β) : ob33 (some (v0, v1, v2, v3, v4, v5, v6, v7, v8, v9, v10, v11, v12, v13, v14, v15, v16, v17, v18, v19, v20, v21, v22, v23, v24, v25, v26, v27, v28, v29, v30, v31, v32)) k = k v0 v1 v2 v3 v4 v5 v6 v7 v8 v9 v10 v11 v12 v13 v14 v15 v16 v17 v18 v19 v20 v21 v22 v23 v24 v25 v26 v27 v28 v29 v30 v31 v32 := rfl
theorem ob34_s {T0 T1 T2 T3 T4 T5 T6 T7 T8 T9 T10 T11 T12 T13 T14 T15 T16 T17 T18 T19 T20 T21 T22 T23 T24 T25 T26 T27 T28 T29 T30 T31 T32 T33 β : Type} (v0 : T0) (v1 : T1) (v2 : T2) (v3 : T3) (v4 : T4) (v5 : T5) (v6 : T6) (v7 : T7) (v8 : T8) (v9 : T9) (v10 : T10) (v11 : T11) (v12 : T12) (v13 : T13) (v14 : T14) (v15 : T15) (v16 : T16) (v17 : T17) (v18 : T18) (v19 : T19) (v20 : T20) (v21 : T21) (v22 : T22) (v23 : T23) (v24 : T24) (v25 : T25) (v26 : T26) (v27 : T27) (v28 : T28) (v29 : T29) (v30 : T30) (v31 : T31) (v32 : T32) (v33 : T33) (k : T0 → T1 → T2 → T3 → T4 → T5 → T6 → T7 → T8 → T9 → T10 → T11 → T12 → T13 → T14 → T15 → T16 → T17 → T18 → T19 → T20 → T21 → T22 → T23 → T24 → T25 → T26 → T27 → T28 → T29 → T30 → T31 → T32 → T33 → Option β) : ob34 (some (v0, v1, v2, v3, v4, v5, v6, v7, v8, v9, v10, v11, v12, v13, v14, v15, v16, v17, v18, v19, v20, v21, v22, v23, v24, v25, v26, v27, v28, v29, v30, v31, v32, v33)) k = k v0 v1 v2 v3 v4 v5 v6 v7 v8 v9 v10 v11 v12 v13 v14 v15 v16 v17 v18 v19 v20 v21 v22 v23 v24 v25 v26 v27 v28 v29 v30 v31 v32 v33 := rfl
theorem ob35_s {T0 T1 T2 T3 T4 T5 T6 T7 T8 T9 T10 T11 T12 T13 T14 T15 T16 T17 T18 T19 T20 T21 T22 T23 T24 T25 T26 T27 T28 T29 T30 T31 T32 T33 T34 β : Type} (v0 : T0) (v1 : T1) (v2 : T2) (v3 : T3) (v4 : T4) (v5 : T5) (v6 : T6) (v7 : T7) (v8 : T8) (v9 : T9) (v10 : T10) (v11 : T11) (v12 : T12) (v13 : T13) (v14 : T14) (v15 : T15) (v16 : T16) (v17 : T17) (v18 : T18) (v19 : T19) (v20 : T20) (v21 : T21) (v22 : T22) (v23 : T23) (v24 : T24) (v25 : T25) (v26 : T26) (v27 : T27) (v28 : T28) (v29 : T29) (v30 : T30) (v31 : T31) (v32 : T32) (v33 : T33) (v34 : T34) (k : T0 → T1 → T2 → T3 → T4 → T5 → T6 → T7 → T8 → T9 → T10 → T11 → T12 → T13 → T14 → T15 → T16 → T17 → T18 → T19 → T20 → T21 → T22 → T23 → T24 → T25 → T26 → T27 → T28 → T29 → T30 → T31 → T32 → T33 → T34 → Option β) : ob35 (some (v0, v1, v2, v3, v4, v5, v6, v7, v8, v9, v10, v11, v12, v13, v14, v15, v16, v17, v18, v19, v20, v21, v22, v23, v24, v25, v26, v27, v28, v29, v30, v31, v32, v33, v34)) k = k v0 v1 v2 v3 v4 v5 v6 v7 v8 v9 v10 v11 v12 v13 v14 v15 v16 v17 v18 v19 v20 v21 v22 v23 v24 v25 v26 v27 v28 v29 v30 v31 v32 v33 v34 := rfl
theorem ob36_s {T0 T1 T2 T3 T4 T5 T6 T7 T8 T9 T10 T11 T12 T13 T14 T15 T16 T17 T18 T19 T20 T21 T22 T23 T24 T25 T26 T27 T28 T29 T30 T31 T32 T33 T34 T35 β : Type} (v0 : T0) (v1 : T1) (v2 : T2) (v3 : T3) (v4 : T4) (v5 : T5) (v6 : T6) (v7 : T7) (v8 : T8) (v9 : T9) (v10 : T10) (v11 : T11) (v12 : T12) (v13 : T13) (v14 : T14) (v15 : T15) (v16 : T16) (v17 : T17) (v18 : T18) (v19 : T19) (v20 : T20) (v21 : T21) (v22 : T22) (v23 : T23) (v24 : T24) (v25 : T25) (v26 : T26) (v27 : T27) (v28 : T28) (v29 : T29) (v30 : T30) (v31 : T31) (v32 : T32) (v33 : T33) (v34 : T34) (v35 : T35) (k : T0 → T1 → T2 → T3 → T4 → T5 → T6 → T7 → T8 → T9 → T10 → T11 → T12 → T13 → T14 → T15 → T16 → T17 → T18 → T19 → T20 → T21 → T22 → T23 → T24 → T25 → T26 → T27 → T28 → T29 → T30 → T31 → T32 → T33 → T34 → T35 → Option β) : ob36 (some (v0, v1, v2, v3, v4, v5, v6, v7, v8, v9, v10, v11, v12, v13, v14, v15, v16, v17, v18, v19, v20, v21, v22, v23, v24, v25, v26, v27, v28, v29, v30, v31, v32, v33, v34, v35)) k = k v0 v1 v2 v3 v4 v5 v6 v7 v8 v9 v10 v11 v12 v13 v14 v15 v16 v17 v18 v19 v20 v21 v22 v23 v24 v25 v26 v27 v28 v29 v30 v31 v32 v33 v34 v35 := rfl
theorem ob37_s {T0 T1 T2 T3 T4 T5 T6 T7 T8 T9 T10 T11 T12 T13 T14 T15 T16 T17 T18 T19 T20 T21 T22 T23 T24 T25 T26 T27 T28 T29 T30 T31 T32 T33 T34 T35 T36 β : Type} (v0 : T0) (v1 : T1) (v2 : T2) (v3 : T3) (v4 : T4) (v5 : T5) (v6 : T6) (v7 : T7) (v8 : T8) (v9 : T9) (v10 : T10) (v11 : T11) (v12 : T12) (v13 : T13) (v14 : T14) (v15 : T15) (v16 : T16) (v17 : T17) (v18 : T18) (v19 : T19) (v20 : T20) (v21 : T21) (v22 : T22) (v23 : T23) (v24 : T24) (v25 : T25) (v26 : T26) (v27 : T27) (v28 : T28) (v29 : T29) (v30 : T30) (v31 : T31) (v32 : T32) (v33 : T33) (v34 : T34) (v35 : T35) (v36 : T36) (k : T0 → T1 → T2 → T3 → T4 → T5 → T6 → T7 → T8 → T9 → T10 → T11 → T12 → T13 → T14 → T15 → T16 → T17 → T18 → T19 → T20 → T21 → T22 → T23 → T24 → T25 → T26 → T27 → T28 → T29 → T30 → T31 → T32 → T33 → T34 → T35 → T36 → Option β) : ob37 (some (v0, v1, v2, v3, v4, v5, v6, v7, v8, v9, v10, v11, v12, v13, v14, v15, v16, v17, v18, v19, v20, v21, v22, v23, v24, v25, v26, v27, v28, v29, v30, v31, v32, v33, v34, v35, v36)) k = k v0 v1 v2 v3 v4 v5 v6 v7 v8 v9 v10 v11 v12 v13 v14 v15 v16 v17 v18 v19 v20 v21 v22 v23 v24 v25 v26 v27 v28 v29 v30 v31 v32 v33 v34 v35 v36 := rfl
theorem ob38_s {T0 T1 T2 T3 T4 T5 T6 T7 T8 T9 T10 T11 T12 T13 T14 T15 T16 T17 T18 T19 T20 T21 T22 T23 T24 T25 T26 T27 T28 T29 T30 T31 T32 T33 T34 T35 T36 T37 β : Type} (v0 : T0) (v1 : T1) (v2 : T2) (v3 : T3) (v4 : T4) (v5 : T5) (v6 : T6) (v7 : T7) (v8 : T8) (v9 : T9) (v10 : T10) (v11 : T11) (v12 : T12) (v13 : T13) (v14 : T14) (v15 : T15) (v16 : T16) (v17 : T17) (v18 : T18) (v19 : T19) (v20 : T20) (v21 : T21) (v22 : T22) (v23 : T23) (v24 : T24) (v25 : T25) (v26 : T26) (v27 : T27) (v28 : T28) (v29 : T29) (v30 : T30) (v31 : T31) (v32 : T32) (v33 : T33) (v34 : T34) (v35 : T35) (v36 : T36) (v37 : T37) (k : T0 → T1 → T2 → T3 → T4 → T5 → T6 → T7 → T8 → T9 → T10 → T11 → T12 → T13 → T14 → T15 → T16 → T17 → T18 → T19 → T20 → T21 → T22 → T23 → T24 → T25 → T26 → T27 → T28 → T29 → T30 → T31 → T32 → T33 → T34 → T35 → T36 → T37 → Option β) : ob38 (some (v0, v1, v2, v3, v4, v5, v6, v7, v8, v9, v10, v11, v12, v13, v14, v15, v16, v17, v18, v19, v20, v21, v22, v23, v24, v25, v26, v27, v28, v29, v30, v31, v32, v33, v34, v35, v36, v37)) k = k v0 v1 v2 v3 v4 v5 v6 v7 v8 v9 v10 v11 v12 v13 v14 v15 v16 v17 v18 v19 v20 v21 v22 v23 v24 v25 v26 v27 v28 v29 v30 v31 v32 v33 v34 v35 v36 v37 := rfl
theorem ob39_s {T0 T1 T2 T3 T4 T5 T6 T7 T8 T9 T10 T11 T12 T13 T14 T15 T16 T17 T18 T19 T20 T21 T22 T23 T24 T25 T26 T27 T28 T29 T30 T31 T32 T33 T34 T35 T36 T37 T38 β : Type} (v0 : T0) (v1 : T1) (v2 : T2) (v3 : T3) (v4 : T4) (v5 : T5) (v6 : T6) (v7 : T7) (v8 : T8) (v9 : T9) (v10 : T10) (v11 : T11) (v12 : T12) (v13 : T13) (v14 : T14) (v15 : T15) (v16 : T16) (v17 : T17) (v18 : T18) (v19 : T19) (v20 : T20) (v21 : T21) (v22 : T22) (v23 : T23) (v24 : T24) (v25 : T25) (v26 : T26) (v27 : T27) (v28 : T28) (v29 : T29) (v30 : T30) (v31 : T31) (v32 : T32) (v33 : T33) (v34 : T34) (v35 : T35) (v36 : T36) (v37 : T37) (v38 : T38) (k : T0 → T1 → T2 → T3 → T4 → T5 → T6 → T7 → T8 → T9 → T10 → T11 → T12 → T13 → T14 → T15 → T16 → T17 → T18 → T19 → T20 → T21 → T22 → T23 → T24 → T25 → T26 → T27 → T28 → T29 → T30 → T31 → T32 → T33 → T34 → T35 → T36 → T37 → T38 → Option β) : ob39 (some (v0, v1, v2, v3, v4, v5, v6, v7, v8, v9, v10, v11, v12, v13, v14, v15, v16, v17, v18, v19, v20, v21, v22, v23, v24, v25, v26, v27, v28, v29, v30, v31, v32, v33, v34, v35, v36, v37, v38)) k = k v0 v1 v2 v3 v4 v5 v6 v7 v8 v9 v10 v11 v12 v13 v14 v15 v16 v17 v18 v19 v20 v21 v22 v23 v24 v25 v26 v27 v28 v29 v30 v31 v32 v33 v34 v35 v36 v37 v38 := rfl
theorem ob40_s {T0 T1 T2 T3 T4 T5 T6 T7 T8 T9 T10 T11 T12 T13 T14 T15 T16 T17 T18 T19 T20 T21 T22 T23 T24 T25 T26 T27 T28 T29 T30 T31 T32 T33 T34 T35 T36 T37 T38 T39 β : Type} (v0 : T0) (v1 : T1) (v2 : T2) (v3 : T3) (v4 : T4) (v5 : T5) (v6 : T6) (v7 : T7) (v8 : T8) (v9 : T9) (v10 : T10) (v11 : T11) (v12 : T12) (v13 : T13) (v14 : T14) (v15 : T15) (v16 : T16) (v17 : T17) (v18 : T18) (v19 : T19) (v20 : T20) (v21 : T21) (v22 : T22) (v23 : T23) (v24 : T24) (v25 : T25) (v26 : T26) (v27 : T27) (v28 : T28) (v29 : T29) (v30 : T30) (v31 : T31) (v32 : T32) (v33 : T33) (v34 : T34) (v35 : T35) (v36 : T36) (v37 : T37) (v38 : T38) (v39 : T39) (k : T0 → T1 → T2 → T3 → T4 → T5 → T6 → T7 → T8 → T9 → T10 → T11 → T12 → T13 → T14 → T15 → T16 → T17 → T18 → T19 → T20 → T21 → T22 → T23 → T24 → T25 → T26 → T27 → T28 → T29 → T30 → T31 → T32 → T33 → T34 → T35 → T36 → T37 → T38 → T39 → Option β) : ob40 (some (v0, v1, v2, v3, v4, v5, v6, v7, v8, v9, v10, v11, v12, v13, v14, v15, v16, v17, v18, v19, v20, v21, v22, v23, v24, v25, v26, v27, v28, v29, v30, v31, v32, v33, v34, v35, v36, v37, v38, v39)) k = k v0 v1 v2 v3 v4 v5 v6 v7 v8 v9 v10 v11 v12 v13 v14 v15 v16 v17 v18 v19 v20 v21 v22 v23 v24 v25 v26 v27 v28 v29 v30 v31 v32 v33 v34 v35 v36 v37 v38 v39 := rfl
theorem ob41_s {T0 T1 T2 T3 T4 T5 T6 T7 T8 T9 T10 T11 T12 T13 T14 T15 T16 T17 T18 T19 T20 T21 T22 T23 T24 T25 T26 T27 T28 T29 T30 T31 T32 T33 T34 T35 T36 T37 T38 T39 T40 β : Type} (v0 : T0) (v1 : T1) (v2 : T2) (v3 : T3) (v4 : T4) (v5 : T5) (v6 : T6) (v7 : T7) (v8 : T8) (v9 : T9) (v10 : T10) (v11 : T11) (v12 : T12) (v13 : T13) (v14 : T14) (v15 : T15) (v16 : T16) (v17 : T17) (v18 : T18) (v19 : T19) (v20 : T20) (v21 : T21) (v22 : T22) (v23 : T23) (v24 : T24) (v25 : T25) (v26 : T26) (v27 : T27) (v28 : T28) (v29 : T29) (v30 : T30) (v31 : T31) (v32 : T32) (v33 : T33) (v34 : T34) (v35 : T35) (v36 : T36) (v37 : T37) (v38 : T38) (v39 : T39) (v40 : T40) (k : T0 → T1 → T2 → T3 → T4 → T5 → T6 → T7 → T8 → T9 → T10 → T11 → T12 → T13 → T14 → T15 → T16 → T17 → T18 → T19 → T20 → T21 → T22 → T23 → T24 → T25 → T26 → T27 → T28 → T29 → T30 → T31 → T32 → T33 → T34 → T35 → T36 → T37 → T38 → T39 → T40 → Option β) : ob41 (some (v0, v1, v2, v3, v4, v5, v6, v7, v8, v9, v10, v11, v12, v13, v14, v15, v16, v17, v18, v19, v20, v21, v22, v23, v24, v25, v26, v27, v28, v29, v30, v31, v32, v33, v34, v35, v36, v37, v38, v39, v40)) k = k v0 v1 v2 v3 v4 v5 v6 v7 v8 v9 v10 v11 v12 v13 v14 v15 v16 v17 v18 v19 v20 v21 v22 v23 v24 v25 v26 v27 v28 v29 v30 v31 v32 v33 v34 v35 v36 v37 v38 v39 v40 := rfl
theorem ob42_s {T0 T1 T2 T3 T4 T5 T6 T7 T8 T9 T10 T11 T12 T13 T14 T15 T16 T17 T18 T19 T20 T21 T22 T23 T24 T25 T26 T27 T28 T29 T30 T31 T32 T33 T34 T35 T36 T37 T38 T39 T40 T41 β : Type} (v0 : T0) (v1 : T1) (v2 : T2) (v3 : T3) (v4 : T4) (v5 : T5) (v6 : T6) (v7 : T7) (v8 : T8) (v9 : T9) (v10 : T10) (v11 : T11) (v12 : T12) (v13 : T13) (v14 : T14) (v15 : T15) (v16 : T16) (v17 : T17) (v18 : T18) (v19 : T19) (v20 : T20) (v21 : T21) (v22 : T22) (v23 : T23) (v24 : T24) (v25 : T25) (v26 : T26) (v27 : T27) (v28 : T28) (v29 : T29) (v30 : T30) (v31 : T31) (v32 : T32) (v33 : T33) (v34 : T34) (v35 : T35) (v36 : T36) (v37 : T37) (v38 : T38) (v39 : T39) (v40 : T40) (v41 : T41) (k : T0 → T1 → T2 → T3 → T4 → T5 → T6 → T7 → T8 → T9 → T10 → T11 → T12 → T13 → T14 → T15 → T16 → T17 → T18 → T19 → T20 → T21 → T22 → T23 → T24 → T25 → T26 → T27 → T28 → T29 → T30 → T31 → T32 → T33 → T34 → T35 → T36 → T37 → T38 → T39 → T40 → T41 → Option β) : ob42 (some (v0, v1, v2, v3, v4, v5, v6, v7, v8, v9, v10, v11, v12, v13, v14, v15, v16, v17, v18, v19, v20, v21, v22, v23, v24, v25, v26, v27, v28, v29, v30, v31, v32, v33, v34, v35, v36, v37, v38, v39, v40, v41)) k = k v0 v1 v2 v3 v4 v5 v6 v7 v8 v9 v10 v11 v12 v13 v14 v15 v16 v17 v18 v19 v20 v21 v22 v23 v24 v25 v26 v27 v28 v29 v30 v31 v32 v33 v34 v35 v36 v37 v38 v39 v40 v41 := rfl
theorem ob43_s {T0 T1 T2 T3 T4 T5 T6 T7 T8 T9 T10 T11 T12 T13 T14 T15 T16 T17 T18 T19 T20 T21 T22 T23 T24 T25 T26 T27 T28 T29 T30 T31 T32 T33 T34 T35 T36 T37 T38 T39 T40 T41 T42 β : Type} (v0 : T0) (v1 : T1) (v2 : T2) (v3 : T3) (v4 : T4) (v5 : T5) (v6 : T6) (v7 : T7) (v8 : T8) (v9 : T9) (v10 : T10) (v11 : T11) (v12 : T12) (v13 : T13) (v14 : T14) (v15 : T15) (v16 : T16) (v17 : T17) (v18 : T18) (v19 : T19) (v20 : T20) (v21 : T21) (v22 : T22) (v23 : T23) (v24 : T24) (v25 : T25) (v26 : T26) (v27 : T27) (v28 : T28) (v29 : T29) (v30 : T30) (v31 : T31) (v32 : T32) (v33 : T33) (v34 : T34) (v35 : T35) (v36 : T36) (v37 : T37) (v38 : T38) (v39 : T39) (v40 : T40) (v41 : T41) (v42 : T42) (k : T0 → T1 → T2 → T3 → T4 → T5 → T6 → T7 → T8 → T9 → T10 → T11 → T12 → T13 → T14 → T15 → T16 → T17 → T18 → T19 → T20 → T21 → T22 → T23 → T24 → T25 → T26 → T27 → T28 → T29 → T30 → T31 → T32 → T33 → T34 → T35 → T36 → T37 → T38 → T39 → T40 → T41 → T42 → Option β) : ob43 (some (v0, v1, v2, v3, v4, v5, v6, v7, v8, v9, v10, v11, v12, v13, v14, v15, v16, v17, v18, v19, v20, v21, v22, v23, v24, v25, v26, v27, v28, v29, v30, v31, v32, v33, v34, v35, v36, v37, v38, v39, v40, v41, v42)) k = k v0 v1 v2 v3 v4 v5 v6 v7 v8 v9 v10 v11 v12 v13 v14 v15 v16 v17 v18 v19 v20 v21 v22 v23 v24 v25 v26 v27 v28 v29 v30 v31 v32 v33 v34 v35 v36 v37 v38 v39 v40 v41 v42 := rfl
theorem ob44_s {T0 T1 T2 T3 T4 T5 T6 T7 T8 T9 T10 T11 T12 T13 T14 T15 T16 T17 T18 T19 T20 T21 T22 T23 T24 T25 T26 T27 T28 T29 T30 T31 T32 T33 T34 T35 T36 T37 T38 T39 T40 T41 T42 T43 β : Type} (v0 : T0) (v1 : T1) (v2 : T2) (v3 : T3) (v4 : T4) (v5 : T5) (v6 : T6) (v7 : T7) (v8 : T8) (v9 : T9) (v10 : T10) (v11 : T11) (v12 : T12) (v13 : T13) (v14 : T14) (v15 : T15) (v16 : T16) (v17 : T17) (v18 : T18) (v19 : T19) (v20 : T20) (v21 : T21) (v22 : T22) (v23 : T23) (v24 : T24) (v25 : T25) (v26 : T26) (v27 : T27) (v28 : T28) (v29 : T29) (v30 : T30) (v31 : T31) (v32 : T32) (v33 : T33) (v34 : T34) (v35 : T35) (v36 : T36) (v37 : T37) (v38 : T38) (v39 : T39) (v40 : T40) (v41 : T41) (v42 : T42) (v43 : T43) (k : T0 → T1 → T2 → T3 → T4 → T5 → T6 → T7 → T8 → T9 → T10 → T11 → T12 → T13 → T14 → T15 → T16 → T17 → T18 → T19 → T20 → T21 → T22 → T23 → T24 → T25 → T26 → T27 → T28 → T29 → T30 → T31 → T32 → T33 → T34 → T35 → T36 → T37 → T38 → T39 → T40 → T41 → T42 → T43 → Option β) : ob44 (some (v0, v1, v2, v3, v4, v5, v6, v7, v8, v9, v10, v11, v12, v13, v14, v15, v16, v17, v18, v19, v20, v21, v22, v23, v24, v25, v26, v27, v28, v29, v30, v31, v32, v33, v34, v35, v36, v37, v38, v39, v40, v41, v42, v43)) k = k v0 v1 v2 v3 v4 v5 v6 v7 v8 v9 v10 v11 v12 v13 v14 v15 v16 v17 v18 v19 v20 v21 v22 v23 v24 v25 v26 v27 v28 v29 v30 v31 v32 v33 v34 v35 v36 v37 v38 v39 v40 v41 v42 v43 := rfl
theorem ix_of {j n : Nat} (h : j < n) (hn : n < 2 ^ 31) : ixB (nI j) n = true := by
  unfold ixB
  rw [decide_eq_true_eq]
  exact nI_in h hn
theorem rd_in {α β : Type} {f : Nat → α} {n j : Nat} {k : α → Option β} (h : j < n) (hn : n < 2 ^ 31) : rd f n (nI j) k = k (f j) := by
  unfold rd
  rw [if_pos (ix_of h hn), nI_clamp (by omega)]
theorem wr_in {β : Type} {f : Nat → Int32} {n j : Nat} {x : Int32} {k : (Nat → Int32) → Option β} (h : j < n) (hn : n < 2 ^ 31) : wr f n (nI j) x k = k (upd f j x) := by
  unfold wr
  rw [if_pos (ix_of h hn), nI_clamp (by omega)]
theorem wrZ_in {β : Type} {f : Nat → Int32} {n j : Nat} {x : Int32} {k : (Nat → Int32) → Option β} (h : j < n) (hn : n < 2 ^ 31) : wrZ f n (nI j) x k = k (upd f j (vp_nar .boolean x)) := by
  unfold wrZ
  rw [if_pos (ix_of h hn), nI_clamp (by omega)]
theorem wrL_in {β : Type} {f : Nat → Int64} {n j : Nat} {x : Int64} {k : (Nat → Int64) → Option β} (h : j < n) (hn : n < 2 ^ 31) : wrL f n (nI j) x k = k (vp_updL f j x) := by
  unfold wrL
  rw [if_pos (ix_of h hn), nI_clamp (by omega)]
theorem gz_0 {β : Type} (k : Option β) : gz 0 k = k := if_pos (Or.inl rfl)
theorem gz_1 {β : Type} (k : Option β) : gz 1 k = k := if_pos (Or.inr rfl)
def bI (b : Bool) : Int32 := if b = true then 1 else 0
theorem bI_t : bI true = 1 := rfl
theorem bI_f : bI false = 0 := rfl
theorem gz_b {β : Type} (b : Bool) (k : Option β) : gz (bI b) k = k := by
  cases b
  · exact gz_0 k
  · exact gz_1 k
theorem bI_n : ¬ bI true = 0 := by decide
theorem bI_0 (b : Bool) : (bI b = 0) ↔ b = false := by cases b <;> decide
theorem nI_ne (a : Nat) (h : a < 2 ^ 31) : ¬ nI a = -1 := by
  intro z
  have h1 := congrArg Int32.toInt z
  rw [nI_toInt h] at h1
  have h2 : (-1 : Int32).toInt = -1 := rfl
  omega
theorem nI_le0 {a : Nat} (h : a < 2 ^ 31) : (0 : Int32) ≤ nI a := nI_pos' h
/-- letters, digits, bytes of words -/
def isL (c : Int32) : Bool := decide ((97 ≤ c.toInt ∧ c.toInt ≤ 122) ∨ (65 ≤ c.toInt ∧ c.toInt ≤ 90))
def isD (c : Int32) : Bool := decide (48 ≤ c.toInt ∧ c.toInt ≤ 57)
def isW (c : Int32) : Bool := isL c || isD c || decide (c.toInt = 95)
def isB (c : Int32) : Bool := decide (c.toInt = 32 ∨ c.toInt = 10)
theorem i_eq {a b : Int32} : a = b ↔ a.toInt = b.toInt := Int32.toInt_inj.symm
theorem C_isLetter (c : Int32) : f_X5_isLetter c = some (bI (isL c)) := by
  unfold f_X5_isLetter isL bI
  simp only [Int32.lt_iff_toInt_lt, Int32.le_iff_toInt_le, i_eq, Int32.reduceToInt, decide_eq_true_eq]
  repeat' split
  all_goals first | rfl | (exfalso; omega)
theorem M_isLetter (c : Int32) : f_X6_isLetter c = some (bI (isL c)) := by
  unfold f_X6_isLetter isL bI
  simp only [Int32.lt_iff_toInt_lt, Int32.le_iff_toInt_le, i_eq, Int32.reduceToInt, decide_eq_true_eq]
  repeat' split
  all_goals first | rfl | (exfalso; omega)
theorem C_isDigit (c : Int32) : f_X5_isDigit c = some (bI (isD c)) := by
  unfold f_X5_isDigit isD bI
  simp only [Int32.lt_iff_toInt_lt, Int32.le_iff_toInt_le, i_eq, Int32.reduceToInt, decide_eq_true_eq]
  repeat' split
  all_goals first | rfl | (exfalso; omega)
theorem M_isDigit (c : Int32) : f_X6_isDigit c = some (bI (isD c)) := by
  unfold f_X6_isDigit isD bI
  simp only [Int32.lt_iff_toInt_lt, Int32.le_iff_toInt_le, i_eq, Int32.reduceToInt, decide_eq_true_eq]
  repeat' split
  all_goals first | rfl | (exfalso; omega)
theorem C_isWordByte (c : Int32) : f_X5_isWordByte c = some (bI (isW c)) := by
  unfold f_X5_isWordByte f_X5_isWordByte_12 f_X5_isWordByte_24 isW isL isD bI
  simp only [Int32.lt_iff_toInt_lt, Int32.le_iff_toInt_le, i_eq, Int32.reduceToInt, decide_eq_true_eq, Bool.or_eq_true]
  repeat' split
  all_goals first | rfl | (exfalso; omega)
theorem C_isBlank (c : Int32) : f_X5_isBlank c = some (bI (isB c)) := by
  unfold f_X5_isBlank isB bI
  simp only [Int32.lt_iff_toInt_lt, Int32.le_iff_toInt_le, i_eq, Int32.reduceToInt, decide_eq_true_eq]
  repeat' split
  all_goals first | rfl | (exfalso; omega)
/-- the text, as it is looked at -/
def Lk (t : Nat → Int32) (n p : Nat) : Int32 := if p < n then t p else -1
theorem C_at {b : Nat → Int32} {n p : Nat} (hn : n ≤ 2000) (hp : p < 2 ^ 31) : f_X4_at (nI p) b (nI n) = some (Lk b n p) := by
  unfold f_X4_at Lk
  rw [if_neg (nI_pos hp)]
  by_cases h : p < n
  · rw [if_neg (nI_ge h (by omega)), rd_in (by omega) (by decide), if_pos h]
  · rw [if_pos (nI_le (by omega) hp), if_neg h]
theorem M_look {t : Nat → Int32} {n p : Nat} (hn : n ≤ 2000) (hp : p < 2 ^ 31) : f_X6_look t (nI n) (nI p) = some (Lk t n p) := by
  unfold f_X6_look Lk
  by_cases h : p < n
  · rw [if_neg (nI_ge h (by omega)), rd_in (by omega) (by decide), if_pos h]
  · rw [if_pos (nI_le (by omega) hp), if_neg h]
/-- blanks -/
def skF (L : Nat → Int32) : Nat → Nat → Nat
  | 0, p => p
  | k + 1, p => if isB (L p) = true then skF L k (p + 1) else p
def sk (L : Nat → Int32) (n p : Nat) : Nat := skF L (n - p) p
theorem Lk_out {t : Nat → Int32} {n p : Nat} (h : n ≤ p) : Lk t n p = -1 := if_neg (by omega)
theorem Lk_in {t : Nat → Int32} {n p : Nat} (h : p < n) : Lk t n p = t p := if_pos h
theorem isB_out : isB (-1) = false := by decide
theorem sk_step {t : Nat → Int32} {n p : Nat} (h : isB (Lk t n p) = true) : sk (Lk t n) n p = sk (Lk t n) n (p + 1) := by
  have hp : p < n := by
    rcases Nat.lt_or_ge p n with q | q
    · exact q
    · rw [Lk_out q, isB_out] at h; cases h
  unfold sk
  rw [show n - p = (n - (p + 1)) + 1 by omega, skF, if_pos h]
theorem sk_stop {t : Nat → Int32} {n p : Nat} (h : isB (Lk t n p) = false) : sk (Lk t n) n p = p := by
  unfold sk
  cases hk : n - p with
  | zero => rfl
  | succ k => rw [skF, if_neg (by rw [h]; decide)]
theorem sk_ind {t : Nat → Int32} {n : Nat} (P : Nat → Prop) (h1 : ∀ p, isB (Lk t n p) = false → P p) (h2 : ∀ p, p < n → isB (Lk t n p) = true → P (p + 1) → P p) : ∀ p, P p := by
  have key : ∀ k p, n - p ≤ k → P p := by
    intro k
    induction k with
    | zero =>
      intro p hp
      exact h1 p (by rw [Lk_out (by omega), isB_out])
    | succ k ih =>
      intro p hp
      cases hb : isB (Lk t n p) with
      | false => exact h1 p hb
      | true =>
        have hp : p < n := by
          rcases Nat.lt_or_ge p n with q | q
          · exact q
          · rw [Lk_out q, isB_out] at hb; cases hb
        exact h2 p hp hb (ih (p + 1) (by omega))
  exact fun p => key (n - p) p (Nat.le_refl _)
theorem sk_ge (t : Nat → Int32) (n : Nat) : ∀ p, p ≤ sk (Lk t n) n p := by
  refine sk_ind (t := t) (n := n) _ (fun p h => ?_) (fun p hp h ih => ?_)
  · rw [sk_stop h]; exact Nat.le_refl p
  · rw [sk_step h]; omega
theorem sk_le (t : Nat → Int32) (n : Nat) : ∀ p, p ≤ n → sk (Lk t n) n p ≤ n := by
  refine sk_ind (t := t) (n := n) _ (fun p h hn => ?_) (fun p hp h ih hn => ?_)
  · rw [sk_stop h]; exact hn
  · rw [sk_step h]; exact ih hp
theorem sk_nb (t : Nat → Int32) (n : Nat) : ∀ p, isB (Lk t n (sk (Lk t n) n p)) = false := by
  refine sk_ind (t := t) (n := n) _ (fun p h => ?_) (fun p hp h ih => ?_)
  · rw [sk_stop h]; exact h
  · rw [sk_step h]; exact ih
theorem sk_sk (t : Nat → Int32) (n p : Nat) : sk (Lk t n) n (sk (Lk t n) n p) = sk (Lk t n) n p := sk_stop (sk_nb t n p)
theorem sk_gt (t : Nat → Int32) (n p : Nat) (h : n ≤ p) : sk (Lk t n) n p = p := sk_stop (by rw [Lk_out h, isB_out])
theorem C_skip {b : Nat → Int32} {n : Nat} (hn : n ≤ 2000) : ∀ p, ∀ k, p ≤ n → n - p < k → f_X2_advance_8 k (nI p) b (nI n) = some (nI (sk (Lk b n) n p)) := by
  refine sk_ind (t := b) (n := n) _ (fun p h k hp hk => ?_) (fun p hp h ih k hp' hk => ?_)
  · obtain ⟨k, rfl⟩ : ∃ j, k = j + 1 := ⟨k - 1, by omega⟩
    unfold f_X2_advance_8
    rw [sk_stop h]
    by_cases q : n ≤ p
    · rw [if_pos (nI_le q (by omega))]
    · rw [if_neg (nI_ge (by omega) (by omega)), C_at hn (by omega)]
      show ob1 (f_X5_isBlank _) _ = _
      rw [C_isBlank, h]
      rfl
  · obtain ⟨k, rfl⟩ : ∃ j, k = j + 1 := ⟨k - 1, by omega⟩
    unfold f_X2_advance_8
    rw [sk_step h, if_neg (nI_ge hp (by omega)), C_at hn (by omega)]
    show ob1 (f_X5_isBlank _) _ = _
    rw [C_isBlank, h]
    show f_X2_advance_8 k (nI p + 1) b (nI n) = _
    rw [nI_1]
    exact ih k hp (by omega)
theorem M_blanks0 {t : Nat → Int32} {n : Nat} (hn : n ≤ 2000) : ∀ p, ∀ k, p < 2 ^ 30 → n - p < k → f_X6_blanks_0 k t (nI n) (nI p) = some (nI (sk (Lk t n) n p)) := by
  refine sk_ind (t := t) (n := n) _ (fun p h k hp hk => ?_) (fun p hp h ih k hp' hk => ?_)
  · obtain ⟨k, rfl⟩ : ∃ j, k = j + 1 := ⟨k - 1, by omega⟩
    unfold f_X6_blanks_0
    rw [sk_stop h, M_look hn (by omega)]
    have h1 : ¬ Lk t n p = 32 := fun z => by rw [z] at h; exact absurd h (by decide)
    have h2 : ¬ Lk t n p = 10 := fun z => by rw [z] at h; exact absurd h (by decide)
    show (if Lk t n p = 32 then _ else _) = _
    rw [if_neg h1]
    show (if Lk t n p = 10 then _ else _) = _
    rw [if_neg h2]
  · obtain ⟨k, rfl⟩ : ∃ j, k = j + 1 := ⟨k - 1, by omega⟩
    unfold f_X6_blanks_0
    rw [sk_step h, M_look hn (by omega)]
    show (if Lk t n p = 32 then f_X6_blanks_0 k t (nI n) (nI p + 1) else (if Lk t n p = 10 then f_X6_blanks_0 k t (nI n) (nI p + 1) else _)) = _
    rw [nI_1, ih k (by omega) (by omega)]
    unfold isB at h
    rw [decide_eq_true_eq] at h
    by_cases h1 : Lk t n p = 32
    · rw [if_pos h1]
    · rw [if_neg h1, if_pos]
      rw [i_eq] at h1 ⊢
      rcases h with h | h
      · exact absurd h h1
      · exact h
theorem M_blanks {t : Nat → Int32} {n p : Nat} (hn : n ≤ 2000) (hp : p < 2 ^ 30) : f_X6_blanks t (nI n) (nI p) = some (nI (sk (Lk t n) n p)) := by
  unfold f_X6_blanks
  rw [M_blanks0 hn p FU hp (by show n - p < 4096; omega)]
  rfl

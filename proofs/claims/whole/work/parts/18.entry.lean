-- entries
theorem e_0 {σ : ev_H} {a : Nat} {a0 : Int32} {a1 : Value} (h1 : ev_isR a1 = true) : EV 0 [.ref a, .int a0, a1] σ = RUN 0 (σ, 0, [some (.ref a), some (.int a0), some a1], []) := by unfold EV; rw [show ev_ml 0 = 3 from rfl]; simp [ev_ent, ev_sl, cat_i, cat_j, cat_f, cat_d, cat_r, ev_isR_c h1]
theorem e_1 {σ : ev_H} {a : Nat} {a0 : Int32} : EV 1 [.ref a, .int a0] σ = RUN 1 (σ, 0, [some (.ref a), some (.int a0)], []) := rfl
theorem e_2 {σ : ev_H} {a : Nat} : EV 2 [.ref a] σ = RUN 2 (σ, 0, [some (.ref a)], []) := rfl
theorem e_3 {σ : ev_H} {a : Nat} {a0 : Int64} : EV 3 [.ref a, .long a0] σ = RUN 3 (σ, 0, [some (.ref a), some (.long a0), none, none, none, none], []) := rfl
theorem e_4 {σ : ev_H} {a : Nat} {a0 : Int32} {a1 : Value} (h1 : ev_isR a1 = true) : EV 4 [.ref a, .int a0, a1] σ = RUN 4 (σ, 0, [some (.ref a), some (.int a0), some a1], []) := by unfold EV; rw [show ev_ml 4 = 3 from rfl]; simp [ev_ent, ev_sl, cat_i, cat_j, cat_f, cat_d, cat_r, ev_isR_c h1]
theorem e_5 {σ : ev_H} {a : Nat} {a0 : Int32} : EV 5 [.ref a, .int a0] σ = RUN 5 (σ, 0, [some (.ref a), some (.int a0)], []) := rfl
theorem e_6 {σ : ev_H} {a : Nat} {a0 : Int32} {a1 : Int32} : EV 6 [.ref a, .int a0, .int a1] σ = RUN 6 (σ, 0, [some (.ref a), some (.int a0), some (.int a1)], []) := rfl
theorem e_7 {σ : ev_H} {a : Nat} : EV 7 [.ref a] σ = RUN 7 (σ, 0, [some (.ref a)], []) := rfl
theorem e_8 {σ : ev_H} {a : Nat} {a0 : Int64} : EV 8 [.ref a, .long a0] σ = RUN 8 (σ, 0, [some (.ref a), some (.long a0), none, none, none, none], []) := rfl
theorem e_9 {σ : ev_H} {a : Nat} {a0 : Int32} {a1 : Int32} {a2 : Int64} : EV 9 [.ref a, .int a0, .int a1, .long a2] σ = RUN 9 (σ, 0, [some (.ref a), some (.int a0), some (.int a1), some (.long a2), none], []) := rfl
theorem e_10 {σ : ev_H} {a : Nat} {a0 : Int64} : EV 10 [.ref a, .long a0] σ = RUN 10 (σ, 0, [some (.ref a), some (.long a0), none], []) := rfl
theorem e_11 {σ : ev_H} {a : Nat} {a0 : Int64} {a1 : Int32} : EV 11 [.ref a, .long a0, .int a1] σ = RUN 11 (σ, 0, [some (.ref a), some (.long a0), none, some (.int a1)], []) := rfl
theorem e_12 {σ : ev_H} {a : Nat} : EV 12 [.ref a] σ = RUN 12 (σ, 0, [some (.ref a)], []) := rfl
theorem e_13 {σ : ev_H} {a : Nat} : EV 13 [.ref a] σ = RUN 13 (σ, 0, [some (.ref a)], []) := rfl
theorem e_14 {σ : ev_H} {a : Nat} {a0 : Int64} : EV 14 [.ref a, .long a0] σ = RUN 14 (σ, 0, [some (.ref a), some (.long a0), none], []) := rfl
theorem e_15 {σ : ev_H} {a : Nat} {a0 : Int64} : EV 15 [.ref a, .long a0] σ = RUN 15 (σ, 0, [some (.ref a), some (.long a0), none], []) := rfl
theorem e_16 {σ : ev_H} {a : Nat} {a0 : Int64} : EV 16 [.ref a, .long a0] σ = RUN 16 (σ, 0, [some (.ref a), some (.long a0), none, none, none], []) := rfl
theorem e_17 {σ : ev_H} {a : Nat} {a0 : Int64} : EV 17 [.ref a, .long a0] σ = RUN 17 (σ, 0, [some (.ref a), some (.long a0), none], []) := rfl
theorem e_18 {σ : ev_H} {a : Nat} {a0 : Int64} {a1 : Int32} : EV 18 [.ref a, .long a0, .int a1] σ = RUN 18 (σ, 0, [some (.ref a), some (.long a0), none, some (.int a1), none, none, none, none, none, none, none, none, none, none, none, none], []) := rfl
theorem e_19 {σ : ev_H} {a0 : Int32} {a1 : Int32} {a2 : Int32} : EV 19 [.int a0, .int a1, .int a2] σ = RUN 19 (σ, 0, [some (.int a0), some (.int a1), some (.int a2)], []) := rfl
theorem e_20 {σ : ev_H} {a : Nat} {a0 : Int64} : EV 20 [.ref a, .long a0] σ = RUN 20 (σ, 0, [some (.ref a), some (.long a0), none], []) := rfl
theorem e_21 {σ : ev_H} {a : Nat} {a0 : Int64} : EV 21 [.ref a, .long a0] σ = RUN 21 (σ, 0, [some (.ref a), some (.long a0), none, none, none, none, none], []) := rfl
theorem e_22 {σ : ev_H} {a : Nat} {a0 : Int64} {a1 : Int64} : EV 22 [.ref a, .long a0, .long a1] σ = RUN 22 (σ, 0, [some (.ref a), some (.long a0), none, some (.long a1), none, none, none, none, none, none, none, none], []) := rfl
theorem e_23 {σ : ev_H} {a : Nat} {a0 : Int64} {a1 : Int32} : EV 23 [.ref a, .long a0, .int a1] σ = RUN 23 (σ, 0, [some (.ref a), some (.long a0), none, some (.int a1), none, none, none, none, none], []) := rfl
theorem e_24 {σ : ev_H} {a : Nat} {a0 : Int64} : EV 24 [.ref a, .long a0] σ = RUN 24 (σ, 0, [some (.ref a), some (.long a0), none, none, none, none, none, none, none, none, none], []) := rfl
theorem e_25 {σ : ev_H} {a : Nat} {a0 : Value} (h0 : ev_isR a0 = true) : EV 25 [.ref a, a0] σ = RUN 25 (σ, 0, [some (.ref a), some a0], []) := by unfold EV; rw [show ev_ml 25 = 2 from rfl]; simp [ev_ent, ev_sl, cat_i, cat_j, cat_f, cat_d, cat_r, ev_isR_c h0]
theorem e_26 {σ : ev_H} {a : Nat} {a0 : Int32} : EV 26 [.ref a, .int a0] σ = RUN 26 (σ, 0, [some (.ref a), some (.int a0)], []) := rfl
theorem e_27 {σ : ev_H} {a : Nat} : EV 27 [.ref a] σ = RUN 27 (σ, 0, [some (.ref a)], []) := rfl
theorem e_28 {σ : ev_H} {a : Nat} {a0 : Int64} : EV 28 [.ref a, .long a0] σ = RUN 28 (σ, 0, [some (.ref a), some (.long a0), none, none, none, none, none], []) := rfl
theorem e_29 {σ : ev_H} {a : Nat} : EV 29 [.ref a] σ = RUN 29 (σ, 0, [some (.ref a)], []) := rfl
theorem e_30 {σ : ev_H} {a : Nat} {a0 : Int32} {a1 : Int32} : EV 30 [.ref a, .int a0, .int a1] σ = RUN 30 (σ, 0, [some (.ref a), some (.int a0), some (.int a1)], []) := rfl
theorem e_31 {σ : ev_H} {a : Nat} : EV 31 [.ref a] σ = RUN 31 (σ, 0, [some (.ref a)], []) := rfl
theorem e_32 {σ : ev_H} {a : Nat} {a0 : Int64} : EV 32 [.ref a, .long a0] σ = RUN 32 (σ, 0, [some (.ref a), some (.long a0), none, none, none], []) := rfl
theorem e_33 {σ : ev_H} {a : Nat} : EV 33 [.ref a] σ = RUN 33 (σ, 0, [some (.ref a)], []) := rfl
theorem e_34 {σ : ev_H} {a : Nat} {a0 : Int32} {a1 : Int32} {a2 : Int32} : EV 34 [.ref a, .int a0, .int a1, .int a2] σ = RUN 34 (σ, 0, [some (.ref a), some (.int a0), some (.int a1), some (.int a2)], []) := rfl
theorem e_35 {σ : ev_H} {a : Nat} {a0 : Int32} {a1 : Int32} {a2 : Int32} : EV 35 [.ref a, .int a0, .int a1, .int a2] σ = RUN 35 (σ, 0, [some (.ref a), some (.int a0), some (.int a1), some (.int a2), none, none], []) := rfl
theorem e_36 {σ : ev_H} {a : Nat} {a0 : Int32} {a1 : Int32} {a2 : Int32} : EV 36 [.ref a, .int a0, .int a1, .int a2] σ = RUN 36 (σ, 0, [some (.ref a), some (.int a0), some (.int a1), some (.int a2)], []) := rfl
theorem e_37 {σ : ev_H} {a : Nat} {a0 : Int32} {a1 : Int32} : EV 37 [.ref a, .int a0, .int a1] σ = RUN 37 (σ, 0, [some (.ref a), some (.int a0), some (.int a1), none], []) := rfl
theorem e_38 {σ : ev_H} {a : Nat} {a0 : Int32} {a1 : Int32} : EV 38 [.ref a, .int a0, .int a1] σ = RUN 38 (σ, 0, [some (.ref a), some (.int a0), some (.int a1)], []) := rfl
theorem e_39 {σ : ev_H} {a : Nat} {a0 : Int32} : EV 39 [.ref a, .int a0] σ = RUN 39 (σ, 0, [some (.ref a), some (.int a0), none], []) := rfl
theorem e_40 {σ : ev_H} {a : Nat} {a0 : Int32} : EV 40 [.ref a, .int a0] σ = RUN 40 (σ, 0, [some (.ref a), some (.int a0)], []) := rfl
theorem e_41 {σ : ev_H} {a : Nat} {a0 : Int32} {a1 : Int32} : EV 41 [.ref a, .int a0, .int a1] σ = RUN 41 (σ, 0, [some (.ref a), some (.int a0), some (.int a1)], []) := rfl
theorem e_42 {σ : ev_H} {a : Nat} {a0 : Int32} {a1 : Int32} : EV 42 [.ref a, .int a0, .int a1] σ = RUN 42 (σ, 0, [some (.ref a), some (.int a0), some (.int a1), none], []) := rfl
theorem e_43 {σ : ev_H} {a : Nat} {a0 : Int32} {a1 : Int32} {a2 : Int32} : EV 43 [.ref a, .int a0, .int a1, .int a2] σ = RUN 43 (σ, 0, [some (.ref a), some (.int a0), some (.int a1), some (.int a2), none], []) := rfl
theorem e_44 {σ : ev_H} {a : Nat} {a0 : Int32} {a1 : Int32} {a2 : Int32} {a3 : Int64} : EV 44 [.ref a, .int a0, .int a1, .int a2, .long a3] σ = RUN 44 (σ, 0, [some (.ref a), some (.int a0), some (.int a1), some (.int a2), some (.long a3), none, none], []) := rfl
theorem e_45 {σ : ev_H} {a : Nat} {a0 : Int32} {a1 : Int32} {a2 : Int32} {a3 : Int32} {a4 : Int32} : EV 45 [.ref a, .int a0, .int a1, .int a2, .int a3, .int a4] σ = RUN 45 (σ, 0, [some (.ref a), some (.int a0), some (.int a1), some (.int a2), some (.int a3), some (.int a4), none, none], []) := rfl
theorem e_46 {σ : ev_H} {a : Nat} {a0 : Int32} {a1 : Int32} : EV 46 [.ref a, .int a0, .int a1] σ = RUN 46 (σ, 0, [some (.ref a), some (.int a0), some (.int a1), none, none], []) := rfl
theorem e_47 {σ : ev_H} {a : Nat} {a0 : Int32} {a1 : Int32} {a2 : Int32} {a3 : Int64} : EV 47 [.ref a, .int a0, .int a1, .int a2, .long a3] σ = RUN 47 (σ, 0, [some (.ref a), some (.int a0), some (.int a1), some (.int a2), some (.long a3), none, none, none, none, none, none, none], []) := rfl
theorem e_48 {σ : ev_H} {a : Nat} : EV 48 [.ref a] σ = RUN 48 (σ, 0, [some (.ref a)], []) := rfl
theorem e_49 {σ : ev_H} {a : Nat} {a0 : Int32} {a1 : Int32} {a2 : Int32} : EV 49 [.ref a, .int a0, .int a1, .int a2] σ = RUN 49 (σ, 0, [some (.ref a), some (.int a0), some (.int a1), some (.int a2), none], []) := rfl
theorem e_50 {σ : ev_H} {a : Nat} {a0 : Int32} {a1 : Int32} {a2 : Int32} {a3 : Int32} : EV 50 [.ref a, .int a0, .int a1, .int a2, .int a3] σ = RUN 50 (σ, 0, [some (.ref a), some (.int a0), some (.int a1), some (.int a2), some (.int a3), none], []) := rfl
theorem e_51 {σ : ev_H} {a : Nat} {a0 : Int32} {a1 : Int32} {a2 : Int32} : EV 51 [.ref a, .int a0, .int a1, .int a2] σ = RUN 51 (σ, 0, [some (.ref a), some (.int a0), some (.int a1), some (.int a2), none, none], []) := rfl
theorem e_52 {σ : ev_H} {a : Nat} {a0 : Int32} {a1 : Int32} {a2 : Int32} : EV 52 [.ref a, .int a0, .int a1, .int a2] σ = RUN 52 (σ, 0, [some (.ref a), some (.int a0), some (.int a1), some (.int a2), none, none], []) := rfl
theorem e_53 {σ : ev_H} {a : Nat} {a0 : Int32} {a1 : Int32} : EV 53 [.ref a, .int a0, .int a1] σ = RUN 53 (σ, 0, [some (.ref a), some (.int a0), some (.int a1), none], []) := rfl
theorem e_54 {σ : ev_H} {a : Nat} {a0 : Int32} {a1 : Int32} {a2 : Int32} : EV 54 [.ref a, .int a0, .int a1, .int a2] σ = RUN 54 (σ, 0, [some (.ref a), some (.int a0), some (.int a1), some (.int a2), none, none], []) := rfl
theorem e_55 {σ : ev_H} {a : Nat} {a0 : Int32} {a1 : Int32} : EV 55 [.ref a, .int a0, .int a1] σ = RUN 55 (σ, 0, [some (.ref a), some (.int a0), some (.int a1), none], []) := rfl
theorem e_56 {σ : ev_H} {a : Nat} {a0 : Int32} {a1 : Int32} {a2 : Int32} : EV 56 [.ref a, .int a0, .int a1, .int a2] σ = RUN 56 (σ, 0, [some (.ref a), some (.int a0), some (.int a1), some (.int a2), none], []) := rfl
theorem e_57 {σ : ev_H} {a : Nat} {a0 : Int32} {a1 : Int32} : EV 57 [.ref a, .int a0, .int a1] σ = RUN 57 (σ, 0, [some (.ref a), some (.int a0), some (.int a1), none], []) := rfl
theorem e_58 {σ : ev_H} {a : Nat} {a0 : Int32} {a1 : Int32} : EV 58 [.ref a, .int a0, .int a1] σ = RUN 58 (σ, 0, [some (.ref a), some (.int a0), some (.int a1), none], []) := rfl
theorem e_59 {σ : ev_H} {a : Nat} {a0 : Int32} {a1 : Int32} : EV 59 [.ref a, .int a0, .int a1] σ = RUN 59 (σ, 0, [some (.ref a), some (.int a0), some (.int a1), none], []) := rfl
theorem e_60 {σ : ev_H} {a : Nat} {a0 : Int32} : EV 60 [.ref a, .int a0] σ = RUN 60 (σ, 0, [some (.ref a), some (.int a0), none], []) := rfl
theorem e_61 {σ : ev_H} {a : Nat} {a0 : Int32} : EV 61 [.ref a, .int a0] σ = RUN 61 (σ, 0, [some (.ref a), some (.int a0)], []) := rfl
theorem e_62 {σ : ev_H} {a : Nat} : EV 62 [.ref a] σ = RUN 62 (σ, 0, [some (.ref a)], []) := rfl
theorem e_63 {σ : ev_H} {a : Nat} {a0 : Int32} : EV 63 [.ref a, .int a0] σ = RUN 63 (σ, 0, [some (.ref a), some (.int a0)], []) := rfl
theorem e_64 {σ : ev_H} {a : Nat} {a0 : Int32} : EV 64 [.ref a, .int a0] σ = RUN 64 (σ, 0, [some (.ref a), some (.int a0)], []) := rfl
theorem e_65 {σ : ev_H} {a : Nat} : EV 65 [.ref a] σ = RUN 65 (σ, 0, [some (.ref a), none, none, none, none], []) := rfl
theorem e_66 {σ : ev_H} {a0 : Int32} : EV 66 [.int a0] σ = RUN 66 (σ, 0, [some (.int a0)], []) := rfl
theorem e_67 {σ : ev_H} {a : Nat} {a0 : Int32} : EV 67 [.ref a, .int a0] σ = RUN 67 (σ, 0, [some (.ref a), some (.int a0)], []) := rfl
theorem e_68 {σ : ev_H} {a : Nat} {a0 : Int32} : EV 68 [.ref a, .int a0] σ = RUN 68 (σ, 0, [some (.ref a), some (.int a0), none], []) := rfl
theorem e_69 {σ : ev_H} {a : Nat} : EV 69 [.ref a] σ = RUN 69 (σ, 0, [some (.ref a), none, none], []) := rfl
theorem e_70 {σ : ev_H} {a : Nat} {a0 : Int32} : EV 70 [.ref a, .int a0] σ = RUN 70 (σ, 0, [some (.ref a), some (.int a0)], []) := rfl
theorem e_71 {σ : ev_H} {a : Nat} {a0 : Int32} : EV 71 [.ref a, .int a0] σ = RUN 71 (σ, 0, [some (.ref a), some (.int a0)], []) := rfl
theorem e_72 {σ : ev_H} {a0 : Value} {a1 : Value} (h0 : ev_isR a0 = true) (h1 : ev_isR a1 = true) : EV 72 [a0, a1] σ = RUN 72 (σ, 0, [some a0, some a1], []) := by unfold EV; rw [show ev_ml 72 = 2 from rfl]; simp [ev_ent, ev_sl, cat_i, cat_j, cat_f, cat_d, cat_r, ev_isR_c h0, ev_isR_c h1]
theorem e_73 {σ : ev_H} {a0 : Int64} {a1 : Int64} : EV 73 [.long a0, .long a1] σ = RUN 73 (σ, 0, [some (.long a0), none, some (.long a1), none], []) := rfl
theorem e_74 {σ : ev_H} {a0 : Value} (h0 : ev_isR a0 = true) : EV 74 [a0] σ = RUN 74 (σ, 0, [some a0], []) := by unfold EV; rw [show ev_ml 74 = 1 from rfl]; simp [ev_ent, ev_sl, cat_i, cat_j, cat_f, cat_d, cat_r, ev_isR_c h0]
theorem e_75 {σ : ev_H} {a0 : Value} {a1 : Int32} (h0 : ev_isR a0 = true) : EV 75 [a0, .int a1] σ = RUN 75 (σ, 0, [some a0, some (.int a1), none], []) := by unfold EV; rw [show ev_ml 75 = 3 from rfl]; simp [ev_ent, ev_sl, cat_i, cat_j, cat_f, cat_d, cat_r, ev_isR_c h0]
theorem e_76 {σ : ev_H} {a0 : Value} (h0 : ev_isR a0 = true) : EV 76 [a0] σ = RUN 76 (σ, 0, [some a0], []) := by unfold EV; rw [show ev_ml 76 = 1 from rfl]; simp [ev_ent, ev_sl, cat_i, cat_j, cat_f, cat_d, cat_r, ev_isR_c h0]
theorem e_77 {σ : ev_H} {a0 : Value} (h0 : ev_isR a0 = true) : EV 77 [a0] σ = RUN 77 (σ, 0, [some a0], []) := by unfold EV; rw [show ev_ml 77 = 1 from rfl]; simp [ev_ent, ev_sl, cat_i, cat_j, cat_f, cat_d, cat_r, ev_isR_c h0]
theorem e_78 {σ : ev_H} {a0 : Value} (h0 : ev_isR a0 = true) : EV 78 [a0] σ = RUN 78 (σ, 0, [some a0], []) := by unfold EV; rw [show ev_ml 78 = 1 from rfl]; simp [ev_ent, ev_sl, cat_i, cat_j, cat_f, cat_d, cat_r, ev_isR_c h0]
theorem e_79 {σ : ev_H} {a0 : Value} {a1 : Int32} (h0 : ev_isR a0 = true) : EV 79 [a0, .int a1] σ = RUN 79 (σ, 0, [some a0, some (.int a1), none], []) := by unfold EV; rw [show ev_ml 79 = 3 from rfl]; simp [ev_ent, ev_sl, cat_i, cat_j, cat_f, cat_d, cat_r, ev_isR_c h0]
theorem e_80 {σ : ev_H} {a0 : Int32} : EV 80 [.int a0] σ = RUN 80 (σ, 0, [some (.int a0)], []) := rfl
theorem e_81 {σ : ev_H} {a0 : Value} {a1 : Int32} (h0 : ev_isR a0 = true) : EV 81 [a0, .int a1] σ = RUN 81 (σ, 0, [some a0, some (.int a1), none], []) := by unfold EV; rw [show ev_ml 81 = 3 from rfl]; simp [ev_ent, ev_sl, cat_i, cat_j, cat_f, cat_d, cat_r, ev_isR_c h0]
theorem e_82 {σ : ev_H} {a0 : Int32} {a1 : Int32} : EV 82 [.int a0, .int a1] σ = RUN 82 (σ, 0, [some (.int a0), some (.int a1)], []) := rfl
theorem e_83 {σ : ev_H} {a0 : Int32} : EV 83 [.int a0] σ = RUN 83 (σ, 0, [some (.int a0)], []) := rfl
theorem e_84 {σ : ev_H} {a0 : Value} (h0 : ev_isR a0 = true) : EV 84 [a0] σ = RUN 84 (σ, 0, [some a0], []) := by unfold EV; rw [show ev_ml 84 = 1 from rfl]; simp [ev_ent, ev_sl, cat_i, cat_j, cat_f, cat_d, cat_r, ev_isR_c h0]
theorem e_85 {σ : ev_H} {a : Nat} {a0 : Int32} {a1 : Int32} : EV 85 [.ref a, .int a0, .int a1] σ = RUN 85 (σ, 0, [some (.ref a), some (.int a0), some (.int a1), none], []) := rfl
theorem e_86 {σ : ev_H} {a : Nat} {a0 : Int32} {a1 : Int32} : EV 86 [.ref a, .int a0, .int a1] σ = RUN 86 (σ, 0, [some (.ref a), some (.int a0), some (.int a1), none], []) := rfl
theorem e_87 {σ : ev_H} {a0 : Int32} : EV 87 [.int a0] σ = RUN 87 (σ, 0, [some (.int a0)], []) := rfl
theorem e_88 {σ : ev_H} {a : Nat} {a0 : Int32} : EV 88 [.ref a, .int a0] σ = RUN 88 (σ, 0, [some (.ref a), some (.int a0)], []) := rfl
theorem e_89 {σ : ev_H} {a0 : Int32} {a1 : Int64} : EV 89 [.int a0, .long a1] σ = RUN 89 (σ, 0, [some (.int a0), some (.long a1), none], []) := rfl
theorem e_90 {σ : ev_H} {a : Nat} {a0 : Int32} {a1 : Int64} : EV 90 [.ref a, .int a0, .long a1] σ = RUN 90 (σ, 0, [some (.ref a), some (.int a0), some (.long a1), none], []) := rfl
theorem e_91 {σ : ev_H} {a0 : Int32} {a1 : Int32} : EV 91 [.int a0, .int a1] σ = RUN 91 (σ, 0, [some (.int a0), some (.int a1), none], []) := rfl
theorem e_92 {σ : ev_H} {a : Nat} {a0 : Int32} {a1 : Int32} {a2 : Int64} {a3 : Int64} : EV 92 [.ref a, .int a0, .int a1, .long a2, .long a3] σ = RUN 92 (σ, 0, [some (.ref a), some (.int a0), some (.int a1), some (.long a2), none, some (.long a3), none, none], []) := rfl
theorem e_93 {σ : ev_H} {a0 : Int32} {a1 : Int32} {a2 : Int64} {a3 : Int64} : EV 93 [.int a0, .int a1, .long a2, .long a3] σ = RUN 93 (σ, 0, [some (.int a0), some (.int a1), some (.long a2), none, some (.long a3), none], []) := rfl
theorem e_94 {σ : ev_H} {a0 : Value} {a1 : Int32} {a2 : Int64} {a3 : Int64} (h0 : ev_isR a0 = true) : EV 94 [a0, .int a1, .long a2, .long a3] σ = RUN 94 (σ, 0, [some a0, some (.int a1), some (.long a2), none, some (.long a3), none], []) := by unfold EV; rw [show ev_ml 94 = 6 from rfl]; simp [ev_ent, ev_sl, cat_i, cat_j, cat_f, cat_d, cat_r, ev_isR_c h0]
theorem e_95 {σ : ev_H} {a : Nat} {a0 : Int32} : EV 95 [.ref a, .int a0] σ = RUN 95 (σ, 0, [some (.ref a), some (.int a0)], []) := rfl
theorem e_96 {σ : ev_H} {a : Nat} {a0 : Value} (h0 : ev_isR a0 = true) : EV 96 [.ref a, a0] σ = RUN 96 (σ, 0, [some (.ref a), some a0], []) := by unfold EV; rw [show ev_ml 96 = 2 from rfl]; simp [ev_ent, ev_sl, cat_i, cat_j, cat_f, cat_d, cat_r, ev_isR_c h0]
theorem e_97 {σ : ev_H} {a : Nat} {a0 : Value} (h0 : ev_isR a0 = true) : EV 97 [.ref a, a0] σ = RUN 97 (σ, 0, [some (.ref a), some a0], []) := by unfold EV; rw [show ev_ml 97 = 2 from rfl]; simp [ev_ent, ev_sl, cat_i, cat_j, cat_f, cat_d, cat_r, ev_isR_c h0]
theorem e_98 {σ : ev_H} {a : Nat} {a0 : Value} (h0 : ev_isR a0 = true) : EV 98 [.ref a, a0] σ = RUN 98 (σ, 0, [some (.ref a), some a0], []) := by unfold EV; rw [show ev_ml 98 = 2 from rfl]; simp [ev_ent, ev_sl, cat_i, cat_j, cat_f, cat_d, cat_r, ev_isR_c h0]
theorem e_99 {σ : ev_H} {a : Nat} : EV 99 [.ref a] σ = RUN 99 (σ, 0, [some (.ref a)], []) := rfl
theorem e_100 {σ : ev_H} {a : Nat} : EV 100 [.ref a] σ = RUN 100 (σ, 0, [some (.ref a)], []) := rfl
theorem e_101 {σ : ev_H} {a : Nat} {a0 : Value} (h0 : ev_isR a0 = true) : EV 101 [.ref a, a0] σ = RUN 101 (σ, 0, [some (.ref a), some a0, none], []) := by unfold EV; rw [show ev_ml 101 = 3 from rfl]; simp [ev_ent, ev_sl, cat_i, cat_j, cat_f, cat_d, cat_r, ev_isR_c h0]
theorem e_102 {σ : ev_H} {a : Nat} {a0 : Value} (h0 : ev_isR a0 = true) : EV 102 [.ref a, a0] σ = RUN 102 (σ, 0, [some (.ref a), some a0], []) := by unfold EV; rw [show ev_ml 102 = 2 from rfl]; simp [ev_ent, ev_sl, cat_i, cat_j, cat_f, cat_d, cat_r, ev_isR_c h0]
theorem e_103 {σ : ev_H} {a : Nat} {a0 : Value} (h0 : ev_isR a0 = true) : EV 103 [.ref a, a0] σ = RUN 103 (σ, 0, [some (.ref a), some a0], []) := by unfold EV; rw [show ev_ml 103 = 2 from rfl]; simp [ev_ent, ev_sl, cat_i, cat_j, cat_f, cat_d, cat_r, ev_isR_c h0]
theorem e_104 {σ : ev_H} {a : Nat} {a0 : Value} (h0 : ev_isR a0 = true) : EV 104 [.ref a, a0] σ = RUN 104 (σ, 0, [some (.ref a), some a0, none], []) := by unfold EV; rw [show ev_ml 104 = 3 from rfl]; simp [ev_ent, ev_sl, cat_i, cat_j, cat_f, cat_d, cat_r, ev_isR_c h0]
theorem e_105 {σ : ev_H} {a : Nat} {a0 : Value} {a1 : Int32} (h0 : ev_isR a0 = true) : EV 105 [.ref a, a0, .int a1] σ = RUN 105 (σ, 0, [some (.ref a), some a0, some (.int a1)], []) := by unfold EV; rw [show ev_ml 105 = 3 from rfl]; simp [ev_ent, ev_sl, cat_i, cat_j, cat_f, cat_d, cat_r, ev_isR_c h0]
theorem e_106 {σ : ev_H} {a0 : Int32} {a1 : Int32} : EV 106 [.int a0, .int a1] σ = RUN 106 (σ, 0, [some (.int a0), some (.int a1)], []) := rfl
theorem e_107 {σ : ev_H} {a : Nat} : EV 107 [.ref a] σ = RUN 107 (σ, 0, [some (.ref a)], []) := rfl
theorem e_108 {σ : ev_H} {a0 : Int32} {a1 : Int32} {a2 : Int32} : EV 108 [.int a0, .int a1, .int a2] σ = RUN 108 (σ, 0, [some (.int a0), some (.int a1), some (.int a2)], []) := rfl
theorem e_109 {σ : ev_H} {a0 : Int32} : EV 109 [.int a0] σ = RUN 109 (σ, 0, [some (.int a0)], []) := rfl
theorem e_110 {σ : ev_H} {a : Nat} {a0 : Int32} : EV 110 [.ref a, .int a0] σ = RUN 110 (σ, 0, [some (.ref a), some (.int a0)], []) := rfl
theorem e_111 {σ : ev_H} {a0 : Int32} {a1 : Int32} : EV 111 [.int a0, .int a1] σ = RUN 111 (σ, 0, [some (.int a0), some (.int a1)], []) := rfl
theorem e_112 {σ : ev_H} {a0 : Int32} : EV 112 [.int a0] σ = RUN 112 (σ, 0, [some (.int a0)], []) := rfl
theorem e_113 {σ : ev_H} {a : Nat} {a0 : Int32} {a1 : Int32} {a2 : Int32} : EV 113 [.ref a, .int a0, .int a1, .int a2] σ = RUN 113 (σ, 0, [some (.ref a), some (.int a0), some (.int a1), some (.int a2)], []) := rfl
theorem e_114 {σ : ev_H} {a : Nat} {a0 : Int32} : EV 114 [.ref a, .int a0] σ = RUN 114 (σ, 0, [some (.ref a), some (.int a0)], []) := rfl
theorem e_115 {σ : ev_H} {a : Nat} {a0 : Int32} {a1 : Int32} : EV 115 [.ref a, .int a0, .int a1] σ = RUN 115 (σ, 0, [some (.ref a), some (.int a0), some (.int a1)], []) := rfl
theorem e_116 {σ : ev_H} {a : Nat} {a0 : Int32} {a1 : Int32} : EV 116 [.ref a, .int a0, .int a1] σ = RUN 116 (σ, 0, [some (.ref a), some (.int a0), some (.int a1)], []) := rfl
theorem e_117 {σ : ev_H} {a : Nat} {a0 : Int32} {a1 : Int32} {a2 : Int32} : EV 117 [.ref a, .int a0, .int a1, .int a2] σ = RUN 117 (σ, 0, [some (.ref a), some (.int a0), some (.int a1), some (.int a2)], []) := rfl
theorem e_118 {σ : ev_H} {a : Nat} {a0 : Int32} {a1 : Int32} {a2 : Int32} : EV 118 [.ref a, .int a0, .int a1, .int a2] σ = RUN 118 (σ, 0, [some (.ref a), some (.int a0), some (.int a1), some (.int a2), none], []) := rfl
theorem e_119 {σ : ev_H} {a : Nat} {a0 : Int32} {a1 : Int32} {a2 : Int32} : EV 119 [.ref a, .int a0, .int a1, .int a2] σ = RUN 119 (σ, 0, [some (.ref a), some (.int a0), some (.int a1), some (.int a2), none], []) := rfl
theorem e_120 {σ : ev_H} {a : Nat} {a0 : Int32} {a1 : Int32} : EV 120 [.ref a, .int a0, .int a1] σ = RUN 120 (σ, 0, [some (.ref a), some (.int a0), some (.int a1)], []) := rfl
theorem e_121 {σ : ev_H} {a : Nat} {a0 : Int32} {a1 : Int32} : EV 121 [.ref a, .int a0, .int a1] σ = RUN 121 (σ, 0, [some (.ref a), some (.int a0), some (.int a1)], []) := rfl
theorem e_122 {σ : ev_H} {a : Nat} {a0 : Int32} : EV 122 [.ref a, .int a0] σ = RUN 122 (σ, 0, [some (.ref a), some (.int a0), none], []) := rfl
theorem e_123 {σ : ev_H} {a : Nat} {a0 : Int32} : EV 123 [.ref a, .int a0] σ = RUN 123 (σ, 0, [some (.ref a), some (.int a0)], []) := rfl
theorem e_124 {σ : ev_H} {a : Nat} {a0 : Int32} {a1 : Int32} : EV 124 [.ref a, .int a0, .int a1] σ = RUN 124 (σ, 0, [some (.ref a), some (.int a0), some (.int a1), none, none], []) := rfl
theorem e_125 {σ : ev_H} {a : Nat} {a0 : Int32} {a1 : Int32} : EV 125 [.ref a, .int a0, .int a1] σ = RUN 125 (σ, 0, [some (.ref a), some (.int a0), some (.int a1), none], []) := rfl
theorem e_126 {σ : ev_H} {a0 : Int32} {a1 : Int64} : EV 126 [.int a0, .long a1] σ = RUN 126 (σ, 0, [some (.int a0), some (.long a1), none], []) := rfl
theorem e_127 {σ : ev_H} {a0 : Int32} {a1 : Int64} : EV 127 [.int a0, .long a1] σ = RUN 127 (σ, 0, [some (.int a0), some (.long a1), none], []) := rfl
theorem e_128 {σ : ev_H} {a : Nat} {a0 : Int32} {a1 : Int32} {a2 : Int32} : EV 128 [.ref a, .int a0, .int a1, .int a2] σ = RUN 128 (σ, 0, [some (.ref a), some (.int a0), some (.int a1), some (.int a2)], []) := rfl
theorem e_129 {σ : ev_H} {a : Nat} {a0 : Int32} {a1 : Int32} {a2 : Int32} : EV 129 [.ref a, .int a0, .int a1, .int a2] σ = RUN 129 (σ, 0, [some (.ref a), some (.int a0), some (.int a1), some (.int a2), none], []) := rfl
theorem e_130 {σ : ev_H} {a : Nat} {a0 : Int32} {a1 : Int32} {a2 : Int32} {a3 : Int64} : EV 130 [.ref a, .int a0, .int a1, .int a2, .long a3] σ = RUN 130 (σ, 0, [some (.ref a), some (.int a0), some (.int a1), some (.int a2), some (.long a3), none, none], []) := rfl
theorem e_131 {σ : ev_H} {a : Nat} {a0 : Int32} {a1 : Int32} {a2 : Int32} {a3 : Int32} {a4 : Int32} : EV 131 [.ref a, .int a0, .int a1, .int a2, .int a3, .int a4] σ = RUN 131 (σ, 0, [some (.ref a), some (.int a0), some (.int a1), some (.int a2), some (.int a3), some (.int a4), none, none, none, none, none], []) := rfl
theorem e_132 {σ : ev_H} {a : Nat} {a0 : Int32} {a1 : Int32} : EV 132 [.ref a, .int a0, .int a1] σ = RUN 132 (σ, 0, [some (.ref a), some (.int a0), some (.int a1), none, none, none], []) := rfl
theorem e_133 {σ : ev_H} {a0 : Int32} {a1 : Int32} : EV 133 [.int a0, .int a1] σ = RUN 133 (σ, 0, [some (.int a0), some (.int a1)], []) := rfl
theorem e_134 {σ : ev_H} {a : Nat} {a0 : Int32} {a1 : Int32} {a2 : Int32} {a3 : Int64} : EV 134 [.ref a, .int a0, .int a1, .int a2, .long a3] σ = RUN 134 (σ, 0, [some (.ref a), some (.int a0), some (.int a1), some (.int a2), some (.long a3), none, none, none, none, none, none], []) := rfl
theorem e_135 {σ : ev_H} {a0 : Int32} {a1 : Int64} {a2 : Int64} : EV 135 [.int a0, .long a1, .long a2] σ = RUN 135 (σ, 0, [some (.int a0), some (.long a1), none, some (.long a2), none], []) := rfl
theorem e_136 {σ : ev_H} {a0 : Int32} {a1 : Int32} {a2 : Int32} : EV 136 [.int a0, .int a1, .int a2] σ = RUN 136 (σ, 0, [some (.int a0), some (.int a1), some (.int a2)], []) := rfl
theorem e_137 {σ : ev_H} {a0 : Int64} {a1 : Int64} {a2 : Int32} : EV 137 [.long a0, .long a1, .int a2] σ = RUN 137 (σ, 0, [some (.long a0), none, some (.long a1), none, some (.int a2)], []) := rfl
theorem e_138 {σ : ev_H} {a0 : UInt64} {a1 : Int32} : EV 138 [.double a0, .int a1] σ = RUN 138 (σ, 0, [some (.double a0), none, some (.int a1), none, none, none, none, none, none], []) := rfl
theorem e_139 {σ : ev_H} {a0 : Int32} {a1 : Int32} {a2 : Int32} : EV 139 [.int a0, .int a1, .int a2] σ = RUN 139 (σ, 0, [some (.int a0), some (.int a1), some (.int a2), none, none], []) := rfl
theorem e_140 {σ : ev_H} {a0 : Int64} {a1 : Int64} {a2 : Int32} : EV 140 [.long a0, .long a1, .int a2] σ = RUN 140 (σ, 0, [some (.long a0), none, some (.long a1), none, some (.int a2), none, none, none, none], []) := rfl
theorem e_141 {σ : ev_H} {a : Nat} : EV 141 [.ref a] σ = RUN 141 (σ, 0, [some (.ref a)], []) := rfl
theorem e_142 {σ : ev_H} {a : Nat} {a0 : Int32} {a1 : Int32} {a2 : Int32} : EV 142 [.ref a, .int a0, .int a1, .int a2] σ = RUN 142 (σ, 0, [some (.ref a), some (.int a0), some (.int a1), some (.int a2), none], []) := rfl
theorem e_143 {σ : ev_H} {a : Nat} {a0 : Int32} {a1 : Int32} {a2 : Int32} : EV 143 [.ref a, .int a0, .int a1, .int a2] σ = RUN 143 (σ, 0, [some (.ref a), some (.int a0), some (.int a1), some (.int a2), none], []) := rfl
theorem e_144 {σ : ev_H} {a : Nat} {a0 : Int32} {a1 : Int32} {a2 : Int32} {a3 : Int32} : EV 144 [.ref a, .int a0, .int a1, .int a2, .int a3] σ = RUN 144 (σ, 0, [some (.ref a), some (.int a0), some (.int a1), some (.int a2), some (.int a3), none], []) := rfl
theorem e_145 {σ : ev_H} {a : Nat} {a0 : Int32} {a1 : Int32} {a2 : Int32} : EV 145 [.ref a, .int a0, .int a1, .int a2] σ = RUN 145 (σ, 0, [some (.ref a), some (.int a0), some (.int a1), some (.int a2)], []) := rfl
theorem e_146 {σ : ev_H} {a : Nat} {a0 : Int32} {a1 : Int32} {a2 : Int32} : EV 146 [.ref a, .int a0, .int a1, .int a2] σ = RUN 146 (σ, 0, [some (.ref a), some (.int a0), some (.int a1), some (.int a2), none], []) := rfl
theorem e_147 {σ : ev_H} {a : Nat} {a0 : Int32} {a1 : Int32} : EV 147 [.ref a, .int a0, .int a1] σ = RUN 147 (σ, 0, [some (.ref a), some (.int a0), some (.int a1)], []) := rfl
theorem e_148 {σ : ev_H} {a : Nat} {a0 : Int32} {a1 : Int32} : EV 148 [.ref a, .int a0, .int a1] σ = RUN 148 (σ, 0, [some (.ref a), some (.int a0), some (.int a1), none], []) := rfl
theorem e_149 {σ : ev_H} {a : Nat} {a0 : Int32} {a1 : Int32} {a2 : Int32} : EV 149 [.ref a, .int a0, .int a1, .int a2] σ = RUN 149 (σ, 0, [some (.ref a), some (.int a0), some (.int a1), some (.int a2), none, none], []) := rfl
theorem e_150 {σ : ev_H} {a : Nat} {a0 : Int32} {a1 : Int32} : EV 150 [.ref a, .int a0, .int a1] σ = RUN 150 (σ, 0, [some (.ref a), some (.int a0), some (.int a1)], []) := rfl
theorem e_151 {σ : ev_H} {a0 : Int32} : EV 151 [.int a0] σ = RUN 151 (σ, 0, [some (.int a0)], []) := rfl
theorem e_152 {σ : ev_H} {a : Nat} {a0 : Int32} {a1 : Int32} : EV 152 [.ref a, .int a0, .int a1] σ = RUN 152 (σ, 0, [some (.ref a), some (.int a0), some (.int a1), none, none], []) := rfl
theorem e_153 {σ : ev_H} {a : Nat} {a0 : Int32} {a1 : Int32} {a2 : Int32} : EV 153 [.ref a, .int a0, .int a1, .int a2] σ = RUN 153 (σ, 0, [some (.ref a), some (.int a0), some (.int a1), some (.int a2), none, none], []) := rfl
theorem e_154 {σ : ev_H} {a : Nat} {a0 : Int32} : EV 154 [.ref a, .int a0] σ = RUN 154 (σ, 0, [some (.ref a), some (.int a0)], []) := rfl
theorem e_155 {σ : ev_H} {a : Nat} {a0 : Int32} : EV 155 [.ref a, .int a0] σ = RUN 155 (σ, 0, [some (.ref a), some (.int a0), none], []) := rfl
theorem e_156 {σ : ev_H} {a : Nat} {a0 : Int32} : EV 156 [.ref a, .int a0] σ = RUN 156 (σ, 0, [some (.ref a), some (.int a0), none], []) := rfl
theorem e_157 {σ : ev_H} {a : Nat} {a0 : Int32} : EV 157 [.ref a, .int a0] σ = RUN 157 (σ, 0, [some (.ref a), some (.int a0), none, none], []) := rfl
theorem e_158 {σ : ev_H} {a : Nat} {a0 : Int32} : EV 158 [.ref a, .int a0] σ = RUN 158 (σ, 0, [some (.ref a), some (.int a0), none], []) := rfl
theorem e_159 {σ : ev_H} {a : Nat} {a0 : Int32} {a1 : Int32} : EV 159 [.ref a, .int a0, .int a1] σ = RUN 159 (σ, 0, [some (.ref a), some (.int a0), some (.int a1), none], []) := rfl
theorem e_160 {σ : ev_H} {a : Nat} {a0 : Int32} {a1 : Int32} : EV 160 [.ref a, .int a0, .int a1] σ = RUN 160 (σ, 0, [some (.ref a), some (.int a0), some (.int a1), none, none], []) := rfl
theorem e_161 {σ : ev_H} {a : Nat} {a0 : Int32} {a1 : Int32} : EV 161 [.ref a, .int a0, .int a1] σ = RUN 161 (σ, 0, [some (.ref a), some (.int a0), some (.int a1), none], []) := rfl
theorem e_162 {σ : ev_H} {a : Nat} {a0 : Int32} : EV 162 [.ref a, .int a0] σ = RUN 162 (σ, 0, [some (.ref a), some (.int a0), none], []) := rfl
theorem e_163 {σ : ev_H} {a : Nat} {a0 : Int32} : EV 163 [.ref a, .int a0] σ = RUN 163 (σ, 0, [some (.ref a), some (.int a0)], []) := rfl
theorem e_164 {σ : ev_H} {a : Nat} : EV 164 [.ref a] σ = RUN 164 (σ, 0, [some (.ref a)], []) := rfl
theorem e_165 {σ : ev_H} {a : Nat} {a0 : Int32} : EV 165 [.ref a, .int a0] σ = RUN 165 (σ, 0, [some (.ref a), some (.int a0)], []) := rfl
theorem e_166 {σ : ev_H} {a : Nat} {a0 : Int32} : EV 166 [.ref a, .int a0] σ = RUN 166 (σ, 0, [some (.ref a), some (.int a0), none, none], []) := rfl
theorem e_167 {σ : ev_H} {a : Nat} {a0 : Int64} : EV 167 [.ref a, .long a0] σ = RUN 167 (σ, 0, [some (.ref a), some (.long a0), none], []) := rfl
theorem e_168 {σ : ev_H} {a : Nat} {a0 : Int32} : EV 168 [.ref a, .int a0] σ = RUN 168 (σ, 0, [some (.ref a), some (.int a0), none], []) := rfl
theorem e_169 {σ : ev_H} {a : Nat} : EV 169 [.ref a] σ = RUN 169 (σ, 0, [some (.ref a), none, none, none], []) := rfl
theorem e_170 {σ : ev_H} {a0 : UInt64} : EV 170 [.double a0] σ = RUN 170 (σ, 0, [some (.double a0), none], []) := rfl
theorem e_171 {σ : ev_H} {a0 : UInt64} : EV 171 [.double a0] σ = RUN 171 (σ, 0, [some (.double a0), none], []) := rfl
theorem e_172 {σ : ev_H} {a0 : UInt32} : EV 172 [.float a0] σ = RUN 172 (σ, 0, [some (.float a0)], []) := rfl
theorem e_173 {σ : ev_H} {a0 : UInt32} : EV 173 [.float a0] σ = RUN 173 (σ, 0, [some (.float a0)], []) := rfl

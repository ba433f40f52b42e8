/-! the tables read: written by wip/whole/gen_ev.py -/
theorem oc_0 : oc 0 = 0 := rfl
theorem mf_0 : kd 0 = 2 ∧ na 0 = 0 ∧ mx 0 = 1 ∧ oc 0 = 0 := ⟨rfl, rfl, rfl, rfl⟩
theorem rt_0 : rt 0 = none := rfl
theorem oc_1 : oc 1 = 0 := rfl
theorem mf_1 : kd 1 = 1 ∧ na 1 = 1 ∧ mx 1 = 2 ∧ oc 1 = 0 := ⟨rfl, rfl, rfl, rfl⟩
theorem rt_1 : rt 1 = none := rfl
theorem oc_2 : oc 2 = 1 := rfl
theorem mf_2 : kd 2 = 2 ∧ na 2 = 0 ∧ mx 2 = 2 ∧ oc 2 = 1 := ⟨rfl, rfl, rfl, rfl⟩
theorem rt_2 : rt 2 = none := rfl
theorem oc_3 : oc 3 = 1 := rfl
theorem mf_3 : kd 3 = 1 ∧ na 3 = 3 ∧ mx 3 = 5 ∧ oc 3 = 1 := ⟨rfl, rfl, rfl, rfl⟩
theorem rt_3 : rt 3 = some (FieldType.int) := rfl
theorem oc_4 : oc 4 = 1 := rfl
theorem mf_4 : kd 4 = 1 ∧ na 4 = 1 ∧ mx 4 = 2 ∧ oc 4 = 1 := ⟨rfl, rfl, rfl, rfl⟩
theorem rt_4 : rt 4 = some (FieldType.int) := rfl
theorem oc_5 : oc 5 = 1 := rfl
theorem mf_5 : kd 5 = 1 ∧ na 5 = 2 ∧ mx 5 = 5 ∧ oc 5 = 1 := ⟨rfl, rfl, rfl, rfl⟩
theorem rt_5 : rt 5 = none := rfl
theorem oc_6 : oc 6 = 1 := rfl
theorem mf_6 : kd 6 = 1 ∧ na 6 = 4 ∧ mx 6 = 7 ∧ oc 6 = 1 := ⟨rfl, rfl, rfl, rfl⟩
theorem rt_6 : rt 6 = none := rfl
theorem oc_7 : oc 7 = 1 := rfl
theorem mf_7 : kd 7 = 1 ∧ na 7 = 1 ∧ mx 7 = 2 ∧ oc 7 = 1 := ⟨rfl, rfl, rfl, rfl⟩
theorem rt_7 : rt 7 = some (FieldType.object "SilentAfter$Valley") := rfl
theorem oc_8 : oc 8 = 1 := rfl
theorem mf_8 : kd 8 = 1 ∧ na 8 = 2 ∧ mx 8 = 4 ∧ oc 8 = 1 := ⟨rfl, rfl, rfl, rfl⟩
theorem rt_8 : rt 8 = some (FieldType.boolean) := rfl
theorem oc_9 : oc 9 = 1 := rfl
theorem mf_9 : kd 9 = 1 ∧ na 9 = 2 ∧ mx 9 = 7 ∧ oc 9 = 1 := ⟨rfl, rfl, rfl, rfl⟩
theorem rt_9 : rt 9 = some (FieldType.int) := rfl
theorem oc_10 : oc 10 = 2 := rfl
theorem mf_10 : kd 10 = 2 ∧ na 10 = 0 ∧ mx 10 = 1 ∧ oc 10 = 2 := ⟨rfl, rfl, rfl, rfl⟩
theorem rt_10 : rt 10 = none := rfl
theorem oc_11 : oc 11 = 2 := rfl
theorem mf_11 : kd 11 = 1 ∧ na 11 = 0 ∧ mx 11 = 1 ∧ oc 11 = 2 := ⟨rfl, rfl, rfl, rfl⟩
theorem rt_11 : rt 11 = some (FieldType.int) := rfl
theorem oc_12 : oc 12 = 2 := rfl
theorem mf_12 : kd 12 = 1 ∧ na 12 = 2 ∧ mx 12 = 3 ∧ oc 12 = 2 := ⟨rfl, rfl, rfl, rfl⟩
theorem rt_12 : rt 12 = some (FieldType.boolean) := rfl
theorem oc_13 : oc 13 = 2 := rfl
theorem mf_13 : kd 13 = 1 ∧ na 13 = 0 ∧ mx 13 = 2 ∧ oc 13 = 2 := ⟨rfl, rfl, rfl, rfl⟩
theorem rt_13 : rt 13 = some (FieldType.int) := rfl
theorem oc_14 : oc 14 = 2 := rfl
theorem mf_14 : kd 14 = 1 ∧ na 14 = 1 ∧ mx 14 = 3 ∧ oc 14 = 2 := ⟨rfl, rfl, rfl, rfl⟩
theorem rt_14 : rt 14 = some (FieldType.boolean) := rfl
theorem oc_15 : oc 15 = 2 := rfl
theorem mf_15 : kd 15 = 1 ∧ na 15 = 1 ∧ mx 15 = 2 ∧ oc 15 = 2 := ⟨rfl, rfl, rfl, rfl⟩
theorem rt_15 : rt 15 = none := rfl
theorem oc_16 : oc 16 = 3 := rfl
theorem mf_16 : kd 16 = 2 ∧ na 16 = 0 ∧ mx 16 = 1 ∧ oc 16 = 3 := ⟨rfl, rfl, rfl, rfl⟩
theorem rt_16 : rt 16 = none := rfl
theorem oc_17 : oc 17 = 3 := rfl
theorem mf_17 : kd 17 = 1 ∧ na 17 = 0 ∧ mx 17 = 1 ∧ oc 17 = 3 := ⟨rfl, rfl, rfl, rfl⟩
theorem rt_17 : rt 17 = some (FieldType.int) := rfl
theorem oc_18 : oc 18 = 3 := rfl
theorem mf_18 : kd 18 = 1 ∧ na 18 = 1 ∧ mx 18 = 2 ∧ oc 18 = 3 := ⟨rfl, rfl, rfl, rfl⟩
theorem rt_18 : rt 18 = some (FieldType.int) := rfl
theorem oc_19 : oc 19 = 3 := rfl
theorem mf_19 : kd 19 = 1 ∧ na 19 = 1 ∧ mx 19 = 2 ∧ oc 19 = 3 := ⟨rfl, rfl, rfl, rfl⟩
theorem rt_19 : rt 19 = some (FieldType.int) := rfl
theorem oc_20 : oc 20 = 3 := rfl
theorem mf_20 : kd 20 = 1 ∧ na 20 = 1 ∧ mx 20 = 2 ∧ oc 20 = 3 := ⟨rfl, rfl, rfl, rfl⟩
theorem rt_20 : rt 20 = some (FieldType.int) := rfl
theorem oc_21 : oc 21 = 3 := rfl
theorem mf_21 : kd 21 = 1 ∧ na 21 = 0 ∧ mx 21 = 3 ∧ oc 21 = 3 := ⟨rfl, rfl, rfl, rfl⟩
theorem rt_21 : rt 21 = some (FieldType.int) := rfl
theorem oc_22 : oc 22 = 3 := rfl
theorem mf_22 : kd 22 = 1 ∧ na 22 = 3 ∧ mx 22 = 4 ∧ oc 22 = 3 := ⟨rfl, rfl, rfl, rfl⟩
theorem rt_22 : rt 22 = some (FieldType.boolean) := rfl
theorem oc_23 : oc 23 = 3 := rfl
theorem mf_23 : kd 23 = 1 ∧ na 23 = 0 ∧ mx 23 = 2 ∧ oc 23 = 3 := ⟨rfl, rfl, rfl, rfl⟩
theorem rt_23 : rt 23 = some (FieldType.int) := rfl
theorem oc_24 : oc 24 = 3 := rfl
theorem mf_24 : kd 24 = 1 ∧ na 24 = 1 ∧ mx 24 = 2 ∧ oc 24 = 3 := ⟨rfl, rfl, rfl, rfl⟩
theorem rt_24 : rt 24 = none := rfl
theorem oc_25 : oc 25 = 4 := rfl
theorem mf_25 : kd 25 = 2 ∧ na 25 = 0 ∧ mx 25 = 1 ∧ oc 25 = 4 := ⟨rfl, rfl, rfl, rfl⟩
theorem rt_25 : rt 25 = none := rfl
theorem oc_26 : oc 26 = 4 := rfl
theorem mf_26 : kd 26 = 1 ∧ na 26 = 0 ∧ mx 26 = 1 ∧ oc 26 = 4 := ⟨rfl, rfl, rfl, rfl⟩
theorem rt_26 : rt 26 = some (FieldType.int) := rfl
theorem oc_27 : oc 27 = 4 := rfl
theorem mf_27 : kd 27 = 1 ∧ na 27 = 0 ∧ mx 27 = 1 ∧ oc 27 = 4 := ⟨rfl, rfl, rfl, rfl⟩
theorem rt_27 : rt 27 = some (FieldType.int) := rfl
theorem oc_28 : oc 28 = 4 := rfl
theorem mf_28 : kd 28 = 1 ∧ na 28 = 1 ∧ mx 28 = 2 ∧ oc 28 = 4 := ⟨rfl, rfl, rfl, rfl⟩
theorem rt_28 : rt 28 = some (FieldType.boolean) := rfl
theorem oc_29 : oc 29 = 4 := rfl
theorem mf_29 : kd 29 = 1 ∧ na 29 = 0 ∧ mx 29 = 2 ∧ oc 29 = 4 := ⟨rfl, rfl, rfl, rfl⟩
theorem rt_29 : rt 29 = some (FieldType.int) := rfl
theorem oc_30 : oc 30 = 4 := rfl
theorem mf_30 : kd 30 = 1 ∧ na 30 = 0 ∧ mx 30 = 2 ∧ oc 30 = 4 := ⟨rfl, rfl, rfl, rfl⟩
theorem rt_30 : rt 30 = some (FieldType.int) := rfl
theorem oc_31 : oc 31 = 4 := rfl
theorem mf_31 : kd 31 = 1 ∧ na 31 = 2 ∧ mx 31 = 4 ∧ oc 31 = 4 := ⟨rfl, rfl, rfl, rfl⟩
theorem rt_31 : rt 31 = some (FieldType.int) := rfl
theorem oc_32 : oc 32 = 4 := rfl
theorem mf_32 : kd 32 = 1 ∧ na 32 = 3 ∧ mx 32 = 6 ∧ oc 32 = 4 := ⟨rfl, rfl, rfl, rfl⟩
theorem rt_32 : rt 32 = some (FieldType.int) := rfl
theorem oc_33 : oc 33 = 4 := rfl
theorem mf_33 : kd 33 = 1 ∧ na 33 = 3 ∧ mx 33 = 7 ∧ oc 33 = 4 := ⟨rfl, rfl, rfl, rfl⟩
theorem rt_33 : rt 33 = some (FieldType.boolean) := rfl
theorem oc_34 : oc 34 = 4 := rfl
theorem mf_34 : kd 34 = 1 ∧ na 34 = 1 ∧ mx 34 = 2 ∧ oc 34 = 4 := ⟨rfl, rfl, rfl, rfl⟩
theorem rt_34 : rt 34 = some (FieldType.boolean) := rfl
theorem oc_35 : oc 35 = 4 := rfl
theorem mf_35 : kd 35 = 1 ∧ na 35 = 1 ∧ mx 35 = 2 ∧ oc 35 = 4 := ⟨rfl, rfl, rfl, rfl⟩
theorem rt_35 : rt 35 = some (FieldType.boolean) := rfl
theorem oc_36 : oc 36 = 4 := rfl
theorem mf_36 : kd 36 = 1 ∧ na 36 = 2 ∧ mx 36 = 3 ∧ oc 36 = 4 := ⟨rfl, rfl, rfl, rfl⟩
theorem rt_36 : rt 36 = none := rfl
theorem oc_37 : oc 37 = 5 := rfl
theorem mf_37 : kd 37 = 2 ∧ na 37 = 0 ∧ mx 37 = 1 ∧ oc 37 = 5 := ⟨rfl, rfl, rfl, rfl⟩
theorem rt_37 : rt 37 = none := rfl
theorem oc_38 : oc 38 = 5 := rfl
theorem mf_38 : kd 38 = 1 ∧ na 38 = 0 ∧ mx 38 = 1 ∧ oc 38 = 5 := ⟨rfl, rfl, rfl, rfl⟩
theorem rt_38 : rt 38 = some (FieldType.int) := rfl
theorem oc_39 : oc 39 = 5 := rfl
theorem mf_39 : kd 39 = 1 ∧ na 39 = 0 ∧ mx 39 = 1 ∧ oc 39 = 5 := ⟨rfl, rfl, rfl, rfl⟩
theorem rt_39 : rt 39 = some (FieldType.int) := rfl
theorem oc_40 : oc 40 = 5 := rfl
theorem mf_40 : kd 40 = 1 ∧ na 40 = 0 ∧ mx 40 = 1 ∧ oc 40 = 5 := ⟨rfl, rfl, rfl, rfl⟩
theorem rt_40 : rt 40 = some (FieldType.int) := rfl
theorem oc_41 : oc 41 = 5 := rfl
theorem mf_41 : kd 41 = 1 ∧ na 41 = 1 ∧ mx 41 = 2 ∧ oc 41 = 5 := ⟨rfl, rfl, rfl, rfl⟩
theorem rt_41 : rt 41 = some (FieldType.int) := rfl
theorem oc_42 : oc 42 = 5 := rfl
theorem mf_42 : kd 42 = 1 ∧ na 42 = 1 ∧ mx 42 = 3 ∧ oc 42 = 5 := ⟨rfl, rfl, rfl, rfl⟩
theorem rt_42 : rt 42 = some (FieldType.int) := rfl
theorem oc_43 : oc 43 = 5 := rfl
theorem mf_43 : kd 43 = 1 ∧ na 43 = 1 ∧ mx 43 = 3 ∧ oc 43 = 5 := ⟨rfl, rfl, rfl, rfl⟩
theorem rt_43 : rt 43 = some (FieldType.int) := rfl
theorem oc_44 : oc 44 = 5 := rfl
theorem mf_44 : kd 44 = 1 ∧ na 44 = 1 ∧ mx 44 = 2 ∧ oc 44 = 5 := ⟨rfl, rfl, rfl, rfl⟩
theorem rt_44 : rt 44 = some (FieldType.boolean) := rfl
theorem oc_45 : oc 45 = 5 := rfl
theorem mf_45 : kd 45 = 1 ∧ na 45 = 1 ∧ mx 45 = 2 ∧ oc 45 = 5 := ⟨rfl, rfl, rfl, rfl⟩
theorem rt_45 : rt 45 = some (FieldType.int) := rfl
theorem oc_46 : oc 46 = 5 := rfl
theorem mf_46 : kd 46 = 1 ∧ na 46 = 2 ∧ mx 46 = 3 ∧ oc 46 = 5 := ⟨rfl, rfl, rfl, rfl⟩
theorem rt_46 : rt 46 = none := rfl
theorem oc_47 : oc 47 = 5 := rfl
theorem mf_47 : kd 47 = 1 ∧ na 47 = 2 ∧ mx 47 = 3 ∧ oc 47 = 5 := ⟨rfl, rfl, rfl, rfl⟩
theorem rt_47 : rt 47 = none := rfl
theorem oc_48 : oc 48 = 5 := rfl
theorem mf_48 : kd 48 = 1 ∧ na 48 = 1 ∧ mx 48 = 2 ∧ oc 48 = 5 := ⟨rfl, rfl, rfl, rfl⟩
theorem rt_48 : rt 48 = none := rfl
theorem oc_49 : oc 49 = 5 := rfl
theorem mf_49 : kd 49 = 1 ∧ na 49 = 0 ∧ mx 49 = 2 ∧ oc 49 = 5 := ⟨rfl, rfl, rfl, rfl⟩
theorem rt_49 : rt 49 = none := rfl
theorem oc_50 : oc 50 = 5 := rfl
theorem mf_50 : kd 50 = 1 ∧ na 50 = 2 ∧ mx 50 = 3 ∧ oc 50 = 5 := ⟨rfl, rfl, rfl, rfl⟩
theorem rt_50 : rt 50 = none := rfl
theorem oc_51 : oc 51 = 5 := rfl
theorem mf_51 : kd 51 = 1 ∧ na 51 = 2 ∧ mx 51 = 5 ∧ oc 51 = 5 := ⟨rfl, rfl, rfl, rfl⟩
theorem rt_51 : rt 51 = some (FieldType.int) := rfl
theorem oc_52 : oc 52 = 5 := rfl
theorem mf_52 : kd 52 = 1 ∧ na 52 = 1 ∧ mx 52 = 2 ∧ oc 52 = 5 := ⟨rfl, rfl, rfl, rfl⟩
theorem rt_52 : rt 52 = none := rfl
theorem oc_53 : oc 53 = 5 := rfl
theorem mf_53 : kd 53 = 1 ∧ na 53 = 2 ∧ mx 53 = 4 ∧ oc 53 = 5 := ⟨rfl, rfl, rfl, rfl⟩
theorem rt_53 : rt 53 = none := rfl
theorem oc_54 : oc 54 = 6 := rfl
theorem mf_54 : kd 54 = 2 ∧ na 54 = 0 ∧ mx 54 = 1 ∧ oc 54 = 6 := ⟨rfl, rfl, rfl, rfl⟩
theorem rt_54 : rt 54 = none := rfl
theorem oc_55 : oc 55 = 6 := rfl
theorem mf_55 : kd 55 = 1 ∧ na 55 = 2 ∧ mx 55 = 3 ∧ oc 55 = 6 := ⟨rfl, rfl, rfl, rfl⟩
theorem rt_55 : rt 55 = some (FieldType.int) := rfl
theorem oc_56 : oc 56 = 6 := rfl
theorem mf_56 : kd 56 = 1 ∧ na 56 = 1 ∧ mx 56 = 2 ∧ oc 56 = 6 := ⟨rfl, rfl, rfl, rfl⟩
theorem rt_56 : rt 56 = some (FieldType.int) := rfl
theorem oc_57 : oc 57 = 6 := rfl
theorem mf_57 : kd 57 = 1 ∧ na 57 = 0 ∧ mx 57 = 1 ∧ oc 57 = 6 := ⟨rfl, rfl, rfl, rfl⟩
theorem rt_57 : rt 57 = some (FieldType.int) := rfl
theorem oc_58 : oc 58 = 6 := rfl
theorem mf_58 : kd 58 = 1 ∧ na 58 = 0 ∧ mx 58 = 1 ∧ oc 58 = 6 := ⟨rfl, rfl, rfl, rfl⟩
theorem rt_58 : rt 58 = some (FieldType.int) := rfl
theorem oc_59 : oc 59 = 6 := rfl
theorem mf_59 : kd 59 = 1 ∧ na 59 = 0 ∧ mx 59 = 2 ∧ oc 59 = 6 := ⟨rfl, rfl, rfl, rfl⟩
theorem rt_59 : rt 59 = some (FieldType.int) := rfl
theorem oc_60 : oc 60 = 6 := rfl
theorem mf_60 : kd 60 = 1 ∧ na 60 = 0 ∧ mx 60 = 3 ∧ oc 60 = 6 := ⟨rfl, rfl, rfl, rfl⟩
theorem rt_60 : rt 60 = some (FieldType.int) := rfl
theorem oc_61 : oc 61 = 6 := rfl
theorem mf_61 : kd 61 = 1 ∧ na 61 = 1 ∧ mx 61 = 3 ∧ oc 61 = 6 := ⟨rfl, rfl, rfl, rfl⟩
theorem rt_61 : rt 61 = some (FieldType.int) := rfl
theorem oc_62 : oc 62 = 6 := rfl
theorem mf_62 : kd 62 = 1 ∧ na 62 = 1 ∧ mx 62 = 2 ∧ oc 62 = 6 := ⟨rfl, rfl, rfl, rfl⟩
theorem rt_62 : rt 62 = some (FieldType.int) := rfl
theorem oc_63 : oc 63 = 6 := rfl
theorem mf_63 : kd 63 = 1 ∧ na 63 = 2 ∧ mx 63 = 5 ∧ oc 63 = 6 := ⟨rfl, rfl, rfl, rfl⟩
theorem rt_63 : rt 63 = some (FieldType.int) := rfl
theorem oc_64 : oc 64 = 6 := rfl
theorem mf_64 : kd 64 = 1 ∧ na 64 = 3 ∧ mx 64 = 4 ∧ oc 64 = 6 := ⟨rfl, rfl, rfl, rfl⟩
theorem rt_64 : rt 64 = some (FieldType.int) := rfl
theorem oc_65 : oc 65 = 6 := rfl
theorem mf_65 : kd 65 = 1 ∧ na 65 = 3 ∧ mx 65 = 4 ∧ oc 65 = 6 := ⟨rfl, rfl, rfl, rfl⟩
theorem rt_65 : rt 65 = some (FieldType.int) := rfl
theorem oc_66 : oc 66 = 6 := rfl
theorem mf_66 : kd 66 = 1 ∧ na 66 = 0 ∧ mx 66 = 1 ∧ oc 66 = 6 := ⟨rfl, rfl, rfl, rfl⟩
theorem rt_66 : rt 66 = some (FieldType.int) := rfl
theorem oc_67 : oc 67 = 6 := rfl
theorem mf_67 : kd 67 = 1 ∧ na 67 = 1 ∧ mx 67 = 3 ∧ oc 67 = 6 := ⟨rfl, rfl, rfl, rfl⟩
theorem rt_67 : rt 67 = some (FieldType.int) := rfl
theorem oc_68 : oc 68 = 6 := rfl
theorem mf_68 : kd 68 = 1 ∧ na 68 = 2 ∧ mx 68 = 7 ∧ oc 68 = 6 := ⟨rfl, rfl, rfl, rfl⟩
theorem rt_68 : rt 68 = some (FieldType.int) := rfl
theorem oc_69 : oc 69 = 6 := rfl
theorem mf_69 : kd 69 = 1 ∧ na 69 = 6 ∧ mx 69 = 15 ∧ oc 69 = 6 := ⟨rfl, rfl, rfl, rfl⟩
theorem rt_69 : rt 69 = some (FieldType.int) := rfl
theorem oc_70 : oc 70 = 6 := rfl
theorem mf_70 : kd 70 = 1 ∧ na 70 = 3 ∧ mx 70 = 8 ∧ oc 70 = 6 := ⟨rfl, rfl, rfl, rfl⟩
theorem rt_70 : rt 70 = some (FieldType.int) := rfl
theorem oc_71 : oc 71 = 6 := rfl
theorem mf_71 : kd 71 = 1 ∧ na 71 = 2 ∧ mx 71 = 3 ∧ oc 71 = 6 := ⟨rfl, rfl, rfl, rfl⟩
theorem rt_71 : rt 71 = some (FieldType.int) := rfl
theorem oc_72 : oc 72 = 6 := rfl
theorem mf_72 : kd 72 = 1 ∧ na 72 = 0 ∧ mx 72 = 1 ∧ oc 72 = 6 := ⟨rfl, rfl, rfl, rfl⟩
theorem rt_72 : rt 72 = some (FieldType.int) := rfl
theorem oc_73 : oc 73 = 6 := rfl
theorem mf_73 : kd 73 = 1 ∧ na 73 = 1 ∧ mx 73 = 7 ∧ oc 73 = 6 := ⟨rfl, rfl, rfl, rfl⟩
theorem rt_73 : rt 73 = some (FieldType.int) := rfl
theorem oc_74 : oc 74 = 6 := rfl
theorem mf_74 : kd 74 = 1 ∧ na 74 = 2 ∧ mx 74 = 7 ∧ oc 74 = 6 := ⟨rfl, rfl, rfl, rfl⟩
theorem rt_74 : rt 74 = some (FieldType.long) := rfl
theorem oc_75 : oc 75 = 6 := rfl
theorem mf_75 : kd 75 = 1 ∧ na 75 = 3 ∧ mx 75 = 8 ∧ oc 75 = 6 := ⟨rfl, rfl, rfl, rfl⟩
theorem rt_75 : rt 75 = some (FieldType.int) := rfl
theorem oc_76 : oc 76 = 6 := rfl
theorem mf_76 : kd 76 = 1 ∧ na 76 = 1 ∧ mx 76 = 2 ∧ oc 76 = 6 := ⟨rfl, rfl, rfl, rfl⟩
theorem rt_76 : rt 76 = some (FieldType.int) := rfl
theorem oc_77 : oc 77 = 6 := rfl
theorem mf_77 : kd 77 = 1 ∧ na 77 = 1 ∧ mx 77 = 2 ∧ oc 77 = 6 := ⟨rfl, rfl, rfl, rfl⟩
theorem rt_77 : rt 77 = some (FieldType.int) := rfl
theorem oc_78 : oc 78 = 6 := rfl
theorem mf_78 : kd 78 = 1 ∧ na 78 = 1 ∧ mx 78 = 2 ∧ oc 78 = 6 := ⟨rfl, rfl, rfl, rfl⟩
theorem rt_78 : rt 78 = some (FieldType.int) := rfl
theorem oc_79 : oc 79 = 6 := rfl
theorem mf_79 : kd 79 = 1 ∧ na 79 = 0 ∧ mx 79 = 1 ∧ oc 79 = 6 := ⟨rfl, rfl, rfl, rfl⟩
theorem rt_79 : rt 79 = some (FieldType.int) := rfl
theorem oc_80 : oc 80 = 6 := rfl
theorem mf_80 : kd 80 = 1 ∧ na 80 = 0 ∧ mx 80 = 2 ∧ oc 80 = 6 := ⟨rfl, rfl, rfl, rfl⟩
theorem rt_80 : rt 80 = some (FieldType.int) := rfl
theorem oc_81 : oc 81 = 6 := rfl
theorem mf_81 : kd 81 = 1 ∧ na 81 = 0 ∧ mx 81 = 1 ∧ oc 81 = 6 := ⟨rfl, rfl, rfl, rfl⟩
theorem rt_81 : rt 81 = some (FieldType.boolean) := rfl
theorem oc_82 : oc 82 = 6 := rfl
theorem mf_82 : kd 82 = 1 ∧ na 82 = 2 ∧ mx 82 = 5 ∧ oc 82 = 6 := ⟨rfl, rfl, rfl, rfl⟩
theorem rt_82 : rt 82 = none := rfl
theorem oc_83 : oc 83 = 6 := rfl
theorem mf_83 : kd 83 = 0 ∧ na 83 = 1 ∧ mx 83 = 3 ∧ oc 83 = 6 := ⟨rfl, rfl, rfl, rfl⟩
theorem rt_83 : rt 83 = some (FieldType.int) := rfl
theorem oc_84 : oc 84 = 6 := rfl
theorem mf_84 : kd 84 = 0 ∧ na 84 = 3 ∧ mx 84 = 8 ∧ oc 84 = 6 := ⟨rfl, rfl, rfl, rfl⟩
theorem rt_84 : rt 84 = some (FieldType.int) := rfl
theorem oc_85 : oc 85 = 6 := rfl
theorem mf_85 : kd 85 = 1 ∧ na 85 = 1 ∧ mx 85 = 2 ∧ oc 85 = 6 := ⟨rfl, rfl, rfl, rfl⟩
theorem rt_85 : rt 85 = some (FieldType.object "SilentAfter$Scene") := rfl
theorem oc_86 : oc 86 = 6 := rfl
theorem mf_86 : kd 86 = 0 ∧ na 86 = 2 ∧ mx 86 = 6 ∧ oc 86 = 6 := ⟨rfl, rfl, rfl, rfl⟩
theorem rt_86 : rt 86 = some (FieldType.int) := rfl
theorem oc_87 : oc 87 = 6 := rfl
theorem mf_87 : kd 87 = 0 ∧ na 87 = 1 ∧ mx 87 = 1 ∧ oc 87 = 6 := ⟨rfl, rfl, rfl, rfl⟩
theorem rt_87 : rt 87 = some (FieldType.boolean) := rfl
theorem oc_88 : oc 88 = 6 := rfl
theorem mf_88 : kd 88 = 0 ∧ na 88 = 3 ∧ mx 88 = 3 ∧ oc 88 = 6 := ⟨rfl, rfl, rfl, rfl⟩
theorem rt_88 : rt 88 = some (FieldType.boolean) := rfl
theorem oc_89 : oc 89 = 6 := rfl
theorem mf_89 : kd 89 = 0 ∧ na 89 = 2 ∧ mx 89 = 2 ∧ oc 89 = 6 := ⟨rfl, rfl, rfl, rfl⟩
theorem rt_89 : rt 89 = some (FieldType.int) := rfl
theorem oc_90 : oc 90 = 6 := rfl
theorem mf_90 : kd 90 = 0 ∧ na 90 = 3 ∧ mx 90 = 3 ∧ oc 90 = 6 := ⟨rfl, rfl, rfl, rfl⟩
theorem rt_90 : rt 90 = none := rfl
theorem oc_91 : oc 91 = 6 := rfl
theorem mf_91 : kd 91 = 0 ∧ na 91 = 2 ∧ mx 91 = 3 ∧ oc 91 = 6 := ⟨rfl, rfl, rfl, rfl⟩
theorem rt_91 : rt 91 = none := rfl
theorem oc_92 : oc 92 = 7 := rfl
theorem mf_92 : kd 92 = 2 ∧ na 92 = 0 ∧ mx 92 = 1 ∧ oc 92 = 7 := ⟨rfl, rfl, rfl, rfl⟩
theorem rt_92 : rt 92 = none := rfl
theorem oc_93 : oc 93 = 7 := rfl
theorem mf_93 : kd 93 = 0 ∧ na 93 = 3 ∧ mx 93 = 3 ∧ oc 93 = 7 := ⟨rfl, rfl, rfl, rfl⟩
theorem rt_93 : rt 93 = some (FieldType.boolean) := rfl
theorem oc_94 : oc 94 = 7 := rfl
theorem mf_94 : kd 94 = 0 ∧ na 94 = 1 ∧ mx 94 = 1 ∧ oc 94 = 7 := ⟨rfl, rfl, rfl, rfl⟩
theorem rt_94 : rt 94 = some (FieldType.boolean) := rfl
theorem oc_95 : oc 95 = 7 := rfl
theorem mf_95 : kd 95 = 1 ∧ na 95 = 2 ∧ mx 95 = 5 ∧ oc 95 = 7 := ⟨rfl, rfl, rfl, rfl⟩
theorem rt_95 : rt 95 = some (FieldType.int) := rfl
theorem oc_96 : oc 96 = 7 := rfl
theorem mf_96 : kd 96 = 1 ∧ na 96 = 1 ∧ mx 96 = 2 ∧ oc 96 = 7 := ⟨rfl, rfl, rfl, rfl⟩
theorem rt_96 : rt 96 = some (FieldType.int) := rfl
theorem oc_97 : oc 97 = 7 := rfl
theorem mf_97 : kd 97 = 1 ∧ na 97 = 0 ∧ mx 97 = 2 ∧ oc 97 = 7 := ⟨rfl, rfl, rfl, rfl⟩
theorem rt_97 : rt 97 = some (FieldType.int) := rfl
theorem oc_98 : oc 98 = 7 := rfl
theorem mf_98 : kd 98 = 1 ∧ na 98 = 0 ∧ mx 98 = 7 ∧ oc 98 = 7 := ⟨rfl, rfl, rfl, rfl⟩
theorem rt_98 : rt 98 = some (FieldType.int) := rfl
theorem oc_99 : oc 99 = 7 := rfl
theorem mf_99 : kd 99 = 1 ∧ na 99 = 0 ∧ mx 99 = 1 ∧ oc 99 = 7 := ⟨rfl, rfl, rfl, rfl⟩
theorem rt_99 : rt 99 = some (FieldType.int) := rfl
theorem oc_100 : oc 100 = 7 := rfl
theorem mf_100 : kd 100 = 1 ∧ na 100 = 0 ∧ mx 100 = 3 ∧ oc 100 = 7 := ⟨rfl, rfl, rfl, rfl⟩
theorem rt_100 : rt 100 = some (FieldType.int) := rfl
theorem oc_101 : oc 101 = 7 := rfl
theorem mf_101 : kd 101 = 1 ∧ na 101 = 0 ∧ mx 101 = 2 ∧ oc 101 = 7 := ⟨rfl, rfl, rfl, rfl⟩
theorem rt_101 : rt 101 = none := rfl
theorem oc_102 : oc 102 = 7 := rfl
theorem mf_102 : kd 102 = 1 ∧ na 102 = 2 ∧ mx 102 = 3 ∧ oc 102 = 7 := ⟨rfl, rfl, rfl, rfl⟩
theorem rt_102 : rt 102 = some (FieldType.int) := rfl
theorem oc_103 : oc 103 = 7 := rfl
theorem mf_103 : kd 103 = 1 ∧ na 103 = 2 ∧ mx 103 = 4 ∧ oc 103 = 7 := ⟨rfl, rfl, rfl, rfl⟩
theorem rt_103 : rt 103 = none := rfl
theorem oc_104 : oc 104 = 7 := rfl
theorem mf_104 : kd 104 = 1 ∧ na 104 = 3 ∧ mx 104 = 4 ∧ oc 104 = 7 := ⟨rfl, rfl, rfl, rfl⟩
theorem rt_104 : rt 104 = none := rfl
theorem oc_105 : oc 105 = 7 := rfl
theorem mf_105 : kd 105 = 1 ∧ na 105 = 2 ∧ mx 105 = 4 ∧ oc 105 = 7 := ⟨rfl, rfl, rfl, rfl⟩
theorem rt_105 : rt 105 = none := rfl
theorem oc_106 : oc 106 = 7 := rfl
theorem mf_106 : kd 106 = 1 ∧ na 106 = 1 ∧ mx 106 = 3 ∧ oc 106 = 7 := ⟨rfl, rfl, rfl, rfl⟩
theorem rt_106 : rt 106 = some (FieldType.int) := rfl
theorem oc_107 : oc 107 = 7 := rfl
theorem mf_107 : kd 107 = 1 ∧ na 107 = 1 ∧ mx 107 = 8 ∧ oc 107 = 7 := ⟨rfl, rfl, rfl, rfl⟩
theorem rt_107 : rt 107 = some (FieldType.int) := rfl
theorem oc_108 : oc 108 = 7 := rfl
theorem mf_108 : kd 108 = 1 ∧ na 108 = 0 ∧ mx 108 = 1 ∧ oc 108 = 7 := ⟨rfl, rfl, rfl, rfl⟩
theorem rt_108 : rt 108 = some (FieldType.int) := rfl
theorem oc_109 : oc 109 = 7 := rfl
theorem mf_109 : kd 109 = 1 ∧ na 109 = 0 ∧ mx 109 = 1 ∧ oc 109 = 7 := ⟨rfl, rfl, rfl, rfl⟩
theorem rt_109 : rt 109 = some (FieldType.int) := rfl
theorem oc_110 : oc 110 = 7 := rfl
theorem mf_110 : kd 110 = 1 ∧ na 110 = 0 ∧ mx 110 = 3 ∧ oc 110 = 7 := ⟨rfl, rfl, rfl, rfl⟩
theorem rt_110 : rt 110 = some (FieldType.int) := rfl
theorem oc_111 : oc 111 = 7 := rfl
theorem mf_111 : kd 111 = 1 ∧ na 111 = 1 ∧ mx 111 = 3 ∧ oc 111 = 7 := ⟨rfl, rfl, rfl, rfl⟩
theorem rt_111 : rt 111 = some (FieldType.int) := rfl
theorem oc_112 : oc 112 = 7 := rfl
theorem mf_112 : kd 112 = 1 ∧ na 112 = 1 ∧ mx 112 = 2 ∧ oc 112 = 7 := ⟨rfl, rfl, rfl, rfl⟩
theorem rt_112 : rt 112 = some (FieldType.int) := rfl
theorem oc_113 : oc 113 = 7 := rfl
theorem mf_113 : kd 113 = 1 ∧ na 113 = 2 ∧ mx 113 = 5 ∧ oc 113 = 7 := ⟨rfl, rfl, rfl, rfl⟩
theorem rt_113 : rt 113 = some (FieldType.int) := rfl
theorem oc_114 : oc 114 = 7 := rfl
theorem mf_114 : kd 114 = 1 ∧ na 114 = 3 ∧ mx 114 = 5 ∧ oc 114 = 7 := ⟨rfl, rfl, rfl, rfl⟩
theorem rt_114 : rt 114 = some (FieldType.int) := rfl
theorem oc_115 : oc 115 = 7 := rfl
theorem mf_115 : kd 115 = 1 ∧ na 115 = 3 ∧ mx 115 = 4 ∧ oc 115 = 7 := ⟨rfl, rfl, rfl, rfl⟩
theorem rt_115 : rt 115 = some (FieldType.int) := rfl
theorem oc_116 : oc 116 = 7 := rfl
theorem mf_116 : kd 116 = 1 ∧ na 116 = 0 ∧ mx 116 = 2 ∧ oc 116 = 7 := ⟨rfl, rfl, rfl, rfl⟩
theorem rt_116 : rt 116 = some (FieldType.int) := rfl
theorem oc_117 : oc 117 = 7 := rfl
theorem mf_117 : kd 117 = 1 ∧ na 117 = 1 ∧ mx 117 = 6 ∧ oc 117 = 7 := ⟨rfl, rfl, rfl, rfl⟩
theorem rt_117 : rt 117 = some (FieldType.boolean) := rfl
theorem oc_118 : oc 118 = 7 := rfl
theorem mf_118 : kd 118 = 1 ∧ na 118 = 2 ∧ mx 118 = 4 ∧ oc 118 = 7 := ⟨rfl, rfl, rfl, rfl⟩
theorem rt_118 : rt 118 = none := rfl
theorem oc_119 : oc 119 = 7 := rfl
theorem mf_119 : kd 119 = 1 ∧ na 119 = 0 ∧ mx 119 = 5 ∧ oc 119 = 7 := ⟨rfl, rfl, rfl, rfl⟩
theorem rt_119 : rt 119 = some (FieldType.boolean) := rfl
theorem oc_120 : oc 120 = 7 := rfl
theorem mf_120 : kd 120 = 1 ∧ na 120 = 2 ∧ mx 120 = 6 ∧ oc 120 = 7 := ⟨rfl, rfl, rfl, rfl⟩
theorem rt_120 : rt 120 = none := rfl
theorem oc_121 : oc 121 = 7 := rfl
theorem mf_121 : kd 121 = 1 ∧ na 121 = 0 ∧ mx 121 = 3 ∧ oc 121 = 7 := ⟨rfl, rfl, rfl, rfl⟩
theorem rt_121 : rt 121 = some (FieldType.int) := rfl
theorem oc_122 : oc 122 = 7 := rfl
theorem mf_122 : kd 122 = 1 ∧ na 122 = 1 ∧ mx 122 = 2 ∧ oc 122 = 7 := ⟨rfl, rfl, rfl, rfl⟩
theorem rt_122 : rt 122 = some (FieldType.int) := rfl
theorem oc_123 : oc 123 = 7 := rfl
theorem mf_123 : kd 123 = 1 ∧ na 123 = 2 ∧ mx 123 = 6 ∧ oc 123 = 7 := ⟨rfl, rfl, rfl, rfl⟩
theorem rt_123 : rt 123 = some (FieldType.int) := rfl
theorem oc_124 : oc 124 = 7 := rfl
theorem mf_124 : kd 124 = 1 ∧ na 124 = 6 ∧ mx 124 = 13 ∧ oc 124 = 7 := ⟨rfl, rfl, rfl, rfl⟩
theorem rt_124 : rt 124 = some (FieldType.int) := rfl
theorem oc_125 : oc 125 = 7 := rfl
theorem mf_125 : kd 125 = 1 ∧ na 125 = 3 ∧ mx 125 = 8 ∧ oc 125 = 7 := ⟨rfl, rfl, rfl, rfl⟩
theorem rt_125 : rt 125 = some (FieldType.int) := rfl
theorem oc_126 : oc 126 = 7 := rfl
theorem mf_126 : kd 126 = 1 ∧ na 126 = 2 ∧ mx 126 = 3 ∧ oc 126 = 7 := ⟨rfl, rfl, rfl, rfl⟩
theorem rt_126 : rt 126 = some (FieldType.int) := rfl
theorem oc_127 : oc 127 = 7 := rfl
theorem mf_127 : kd 127 = 1 ∧ na 127 = 0 ∧ mx 127 = 2 ∧ oc 127 = 7 := ⟨rfl, rfl, rfl, rfl⟩
theorem rt_127 : rt 127 = some (FieldType.int) := rfl
theorem oc_128 : oc 128 = 7 := rfl
theorem mf_128 : kd 128 = 1 ∧ na 128 = 1 ∧ mx 128 = 8 ∧ oc 128 = 7 := ⟨rfl, rfl, rfl, rfl⟩
theorem rt_128 : rt 128 = some (FieldType.int) := rfl
theorem oc_129 : oc 129 = 7 := rfl
theorem mf_129 : kd 129 = 1 ∧ na 129 = 2 ∧ mx 129 = 8 ∧ oc 129 = 7 := ⟨rfl, rfl, rfl, rfl⟩
theorem rt_129 : rt 129 = some (FieldType.long) := rfl
theorem oc_130 : oc 130 = 7 := rfl
theorem mf_130 : kd 130 = 1 ∧ na 130 = 3 ∧ mx 130 = 8 ∧ oc 130 = 7 := ⟨rfl, rfl, rfl, rfl⟩
theorem rt_130 : rt 130 = some (FieldType.int) := rfl
theorem oc_131 : oc 131 = 7 := rfl
theorem mf_131 : kd 131 = 1 ∧ na 131 = 1 ∧ mx 131 = 4 ∧ oc 131 = 7 := ⟨rfl, rfl, rfl, rfl⟩
theorem rt_131 : rt 131 = some (FieldType.int) := rfl
theorem oc_132 : oc 132 = 7 := rfl
theorem mf_132 : kd 132 = 1 ∧ na 132 = 1 ∧ mx 132 = 4 ∧ oc 132 = 7 := ⟨rfl, rfl, rfl, rfl⟩
theorem rt_132 : rt 132 = some (FieldType.int) := rfl
theorem oc_133 : oc 133 = 7 := rfl
theorem mf_133 : kd 133 = 1 ∧ na 133 = 1 ∧ mx 133 = 2 ∧ oc 133 = 7 := ⟨rfl, rfl, rfl, rfl⟩
theorem rt_133 : rt 133 = some (FieldType.int) := rfl
theorem oc_134 : oc 134 = 8 := rfl
theorem mf_134 : kd 134 = 0 ∧ na 134 = 1 ∧ mx 134 = 4 ∧ oc 134 = 8 := ⟨rfl, rfl, rfl, rfl⟩
theorem rt_134 : rt 134 = some .boolean := rfl
theorem fo_5_9 : fieldOf 5 9 = some (5, 9, 5, 0, false, 60, 2, true) := rfl
theorem fo_5_15 : fieldOf 5 15 = some (5, 15, 5, 1, false, 61, 0, false) := rfl
theorem fo_5_19 : fieldOf 5 19 = some (5, 19, 5, 2, false, 62, 0, false) := rfl
theorem fo_5_22 : fieldOf 5 22 = some (5, 22, 5, 3, false, 63, 0, false) := rfl
theorem fo_3_9 : fieldOf 3 9 = some (3, 9, 3, 0, false, 80, 2, true) := rfl
theorem fo_3_15 : fieldOf 3 15 = some (3, 15, 3, 1, false, 81, 2, true) := rfl
theorem fo_3_18 : fieldOf 3 18 = some (3, 18, 3, 2, false, 82, 2, true) := rfl
theorem fo_3_21 : fieldOf 3 21 = some (3, 21, 3, 3, false, 83, 0, false) := rfl
theorem fo_2_9 : fieldOf 2 9 = some (2, 9, 2, 0, false, 99, 2, true) := rfl
theorem fo_2_15 : fieldOf 2 15 = some (2, 15, 2, 1, false, 100, 2, true) := rfl
theorem fo_2_18 : fieldOf 2 18 = some (2, 18, 2, 2, false, 101, 0, false) := rfl
theorem fo_0_10 : fieldOf 0 10 = some (0, 10, 0, 0, false, 109, 2, true) := rfl
theorem fo_6_51 : fieldOf 6 51 = some (6, 51, 0, 0, true, 110, 2, true) := rfl
theorem fo_0_19 : fieldOf 0 19 = some (0, 19, 0, 1, false, 111, 2, true) := rfl
theorem fo_6_115 : fieldOf 6 115 = some (6, 115, 0, 1, true, 112, 2, true) := rfl
theorem fo_0_26 : fieldOf 0 26 = some (0, 26, 0, 2, false, 113, 2, true) := rfl
theorem fo_6_151 : fieldOf 6 151 = some (6, 151, 0, 2, true, 114, 2, true) := rfl
theorem fo_0_30 : fieldOf 0 30 = some (0, 30, 0, 3, false, 115, 1, false) := rfl
theorem fo_6_202 : fieldOf 6 202 = some (6, 202, 0, 3, true, 116, 1, false) := rfl
theorem fo_4_9 : fieldOf 4 9 = some (4, 9, 4, 0, false, 132, 2, true) := rfl
theorem fo_4_15 : fieldOf 4 15 = some (4, 15, 4, 1, false, 133, 0, false) := rfl
theorem fo_4_19 : fieldOf 4 19 = some (4, 19, 4, 2, false, 134, 2, true) := rfl
theorem fo_4_22 : fieldOf 4 22 = some (4, 22, 4, 3, false, 135, 2, true) := rfl
theorem fo_4_25 : fieldOf 4 25 = some (4, 25, 4, 4, false, 136, 2, true) := rfl
theorem fo_4_28 : fieldOf 4 28 = some (4, 28, 4, 5, false, 137, 0, false) := rfl
theorem fo_4_31 : fieldOf 4 31 = some (4, 31, 4, 6, false, 138, 0, false) := rfl
theorem fo_4_34 : fieldOf 4 34 = some (4, 34, 4, 7, false, 139, 0, false) := rfl
theorem fo_1_11 : fieldOf 1 11 = some (1, 11, 1, 0, false, 168, 2, true) := rfl
theorem fo_1_17 : fieldOf 1 17 = some (1, 17, 1, 1, false, 169, 2, true) := rfl
theorem fo_1_21 : fieldOf 1 21 = some (1, 21, 1, 2, false, 170, 2, true) := rfl
theorem fo_1_24 : fieldOf 1 24 = some (1, 24, 1, 3, false, 171, 2, true) := rfl
theorem fo_1_27 : fieldOf 1 27 = some (1, 27, 1, 4, false, 172, 2, true) := rfl
theorem fo_1_30 : fieldOf 1 30 = some (1, 30, 1, 5, false, 173, 2, true) := rfl
theorem fo_1_33 : fieldOf 1 33 = some (1, 33, 1, 6, false, 174, 0, false) := rfl
theorem fo_1_37 : fieldOf 1 37 = some (1, 37, 1, 7, false, 175, 0, false) := rfl
theorem fo_6_10 : fieldOf 6 10 = some (6, 10, 6, 0, false, 193, 2, true) := rfl
theorem fo_6_16 : fieldOf 6 16 = some (6, 16, 6, 1, false, 194, 2, true) := rfl
theorem fo_6_19 : fieldOf 6 19 = some (6, 19, 6, 2, false, 195, 2, true) := rfl
theorem fo_6_25 : fieldOf 6 25 = some (6, 25, 6, 3, false, 196, 2, true) := rfl
theorem fo_6_32 : fieldOf 6 32 = some (6, 32, 6, 4, false, 197, 2, true) := rfl
theorem fo_6_39 : fieldOf 6 39 = some (6, 39, 6, 5, false, 198, 2, true) := rfl
theorem fo_6_43 : fieldOf 6 43 = some (6, 43, 6, 6, false, 199, 2, true) := rfl
theorem fo_7_7 : fieldOf 7 7 = some (7, 7, 7, 0, false, 598, 0, false) := rfl
theorem fo_7_13 : fieldOf 7 13 = some (7, 13, 7, 1, false, 599, 0, false) := rfl
theorem fo_7_45 : fieldOf 7 45 = some (7, 45, 7, 2, false, 600, 0, false) := rfl
theorem fo_7_16 : fieldOf 7 16 = some (7, 16, 7, 3, false, 601, 2, true) := rfl
theorem fo_7_106 : fieldOf 7 106 = some (7, 106, 7, 4, false, 602, 0, false) := rfl
theorem fo_7_20 : fieldOf 7 20 = some (7, 20, 7, 5, false, 603, 2, true) := rfl
theorem fo_7_128 : fieldOf 7 128 = some (7, 128, 7, 6, false, 604, 0, false) := rfl
theorem fo_7_23 : fieldOf 7 23 = some (7, 23, 7, 7, false, 605, 2, true) := rfl
theorem fo_7_52 : fieldOf 7 52 = some (7, 52, 7, 8, false, 606, 0, false) := rfl
theorem fo_7_26 : fieldOf 7 26 = some (7, 26, 7, 9, false, 607, 2, true) := rfl
theorem fo_7_29 : fieldOf 7 29 = some (7, 29, 7, 10, false, 608, 2, true) := rfl
theorem fo_7_59 : fieldOf 7 59 = some (7, 59, 7, 11, false, 609, 0, false) := rfl
theorem fo_7_70 : fieldOf 7 70 = some (7, 70, 7, 12, false, 610, 0, false) := rfl
theorem fo_7_73 : fieldOf 7 73 = some (7, 73, 7, 13, false, 611, 0, false) := rfl
theorem fo_7_76 : fieldOf 7 76 = some (7, 76, 7, 14, false, 612, 0, false) := rfl
theorem fo_7_32 : fieldOf 7 32 = some (7, 32, 7, 15, false, 613, 2, true) := rfl
theorem fo_7_35 : fieldOf 7 35 = some (7, 35, 7, 16, false, 614, 2, true) := rfl
theorem fo_7_112 : fieldOf 7 112 = some (7, 112, 7, 17, false, 615, 0, false) := rfl
theorem fo_7_38 : fieldOf 7 38 = some (7, 38, 7, 18, false, 616, 2, true) := rfl
theorem fo_7_41 : fieldOf 7 41 = some (7, 41, 7, 19, false, 617, 2, true) := rfl
theorem mo_8_9 : methOf 8 9 = some (8, 9, 54, false, 42) := by decide +kernel
theorem mo_6_1 : methOf 6 1 = some (6, 1, 200, false, 45) := by decide +kernel
theorem mo_6_9 : methOf 6 9 = some (6, 9, 0, true, 50) := by decide +kernel
theorem mo_0_1 : methOf 0 1 = some (0, 1, 200, false, 53) := by decide +kernel
theorem mo_0_9 : methOf 0 9 = some (0, 9, 37, true, 56) := by decide +kernel
theorem mo_5_3 : methOf 5 3 = some (5, 3, 200, false, 59) := by decide +kernel
theorem mo_0_18 : methOf 0 18 = some (0, 18, 16, true, 76) := by decide +kernel
theorem mo_3_3 : methOf 3 3 = some (3, 3, 200, false, 79) := by decide +kernel
theorem mo_0_25 : methOf 0 25 = some (0, 25, 10, true, 95) := by decide +kernel
theorem mo_2_3 : methOf 2 3 = some (2, 3, 200, false, 98) := by decide +kernel
theorem mo_6_24 : methOf 6 24 = some (6, 24, 25, true, 128) := by decide +kernel
theorem mo_4_3 : methOf 4 3 = some (4, 3, 200, false, 131) := by decide +kernel
theorem mo_6_31 : methOf 6 31 = some (6, 31, 37, true, 158) := by decide +kernel
theorem mo_6_38 : methOf 6 38 = some (6, 38, 2, false, 161) := by decide +kernel
theorem mo_1_3 : methOf 1 3 = some (1, 3, 200, false, 164) := by decide +kernel
theorem mo_1_40 : methOf 1 40 = some (1, 40, 37, true, 167) := by decide +kernel
theorem mo_8_13 : methOf 8 13 = some (8, 13, 55, false, 215) := by decide +kernel
theorem mo_6_47 : methOf 6 47 = some (6, 47, 88, false, 219) := by decide +kernel
theorem mo_6_54 : methOf 6 54 = some (6, 54, 42, false, 222) := by decide +kernel
theorem mo_6_58 : methOf 6 58 = some (6, 58, 43, false, 226) := by decide +kernel
theorem mo_8_18 : methOf 8 18 = some (8, 18, 56, false, 230) := by decide +kernel
theorem mo_6_61 : methOf 6 61 = some (6, 61, 28, false, 234) := by decide +kernel
theorem mo_4_37 : methOf 4 37 = some (4, 37, 90, true, 238) := by decide +kernel
theorem mo_6_65 : methOf 6 65 = some (6, 65, 26, false, 241) := by decide +kernel
theorem mo_8_23 : methOf 8 23 = some (8, 23, 57, false, 245) := by decide +kernel
theorem mo_6_69 : methOf 6 69 = some (6, 69, 29, false, 249) := by decide +kernel
theorem mo_8_28 : methOf 8 28 = some (8, 28, 58, false, 253) := by decide +kernel
theorem mo_6_72 : methOf 6 72 = some (6, 72, 30, false, 257) := by decide +kernel
theorem mo_4_41 : methOf 4 41 = some (4, 41, 89, true, 261) := by decide +kernel
theorem mo_4_45 : methOf 4 45 = some (4, 45, 34, false, 264) := by decide +kernel
theorem mo_4_82 : methOf 4 82 = some (4, 82, 88, true, 268) := by decide +kernel
theorem mo_4_86 : methOf 4 86 = some (4, 86, 35, false, 269) := by decide +kernel
theorem mo_4_89 : methOf 4 89 = some (4, 89, 36, false, 273) := by decide +kernel
theorem mo_8_32 : methOf 8 32 = some (8, 32, 59, false, 277) := by decide +kernel
theorem mo_6_75 : methOf 6 75 = some (6, 75, 79, false, 281) := by decide +kernel
theorem mo_6_162 : methOf 6 162 = some (6, 162, 27, false, 285) := by decide +kernel
theorem mo_6_78 : methOf 6 78 = some (6, 78, 52, false, 289) := by decide +kernel
theorem mo_5_50 : methOf 5 50 = some (5, 50, 91, true, 293) := by decide +kernel
theorem mo_6_82 : methOf 6 82 = some (6, 82, 31, false, 296) := by decide +kernel
theorem mo_4_49 : methOf 4 49 = some (4, 49, 33, false, 300) := by decide +kernel
theorem mo_4_65 : methOf 4 65 = some (4, 65, 49, false, 304) := by decide +kernel
theorem mo_5_47 : methOf 5 47 = some (5, 47, 202, false, 308) := by decide +kernel
theorem mo_4_68 : methOf 4 68 = some (4, 68, 48, false, 311) := by decide +kernel
theorem mo_5_39 : methOf 5 39 = some (5, 39, 53, false, 315) := by decide +kernel
theorem mo_5_33 : methOf 5 33 = some (5, 33, 201, false, 319) := by decide +kernel
theorem mo_4_72 : methOf 4 72 = some (4, 72, 47, false, 322) := by decide +kernel
theorem mo_5_29 : methOf 5 29 = some (5, 29, 41, false, 326) := by decide +kernel
theorem mo_5_25 : methOf 5 25 = some (5, 25, 89, true, 330) := by decide +kernel
theorem mo_5_43 : methOf 5 43 = some (5, 43, 90, true, 331) := by decide +kernel
theorem mo_4_76 : methOf 4 76 = some (4, 76, 44, false, 332) := by decide +kernel
theorem mo_4_79 : methOf 4 79 = some (4, 79, 46, false, 336) := by decide +kernel
theorem mo_8_36 : methOf 8 36 = some (8, 36, 60, false, 340) := by decide +kernel
theorem mo_6_86 : methOf 6 86 = some (6, 86, 80, false, 344) := by decide +kernel
theorem mo_6_89 : methOf 6 89 = some (6, 89, 38, false, 348) := by decide +kernel
theorem mo_8_40 : methOf 8 40 = some (8, 40, 61, false, 352) := by decide +kernel
theorem mo_6_92 : methOf 6 92 = some (6, 92, 87, false, 356) := by decide +kernel
theorem mo_6_95 : methOf 6 95 = some (6, 95, 41, false, 359) := by decide +kernel
theorem mo_8_44 : methOf 8 44 = some (8, 44, 62, false, 360) := by decide +kernel
theorem mo_6_98 : methOf 6 98 = some (6, 98, 45, false, 364) := by decide +kernel
theorem mo_8_48 : methOf 8 48 = some (8, 48, 63, false, 368) := by decide +kernel
theorem mo_6_101 : methOf 6 101 = some (6, 101, 44, false, 372) := by decide +kernel
theorem mo_6_104 : methOf 6 104 = some (6, 104, 46, false, 373) := by decide +kernel
theorem mo_8_52 : methOf 8 52 = some (8, 52, 64, false, 374) := by decide +kernel
theorem mo_6_108 : methOf 6 108 = some (6, 108, 50, false, 378) := by decide +kernel
theorem mo_6_111 : methOf 6 111 = some (6, 111, 51, false, 382) := by decide +kernel
theorem mo_8_57 : methOf 8 57 = some (8, 57, 65, false, 386) := by decide +kernel
theorem mo_6_119 : methOf 6 119 = some (6, 119, 17, false, 390) := by decide +kernel
theorem mo_6_124 : methOf 6 124 = some (6, 124, 22, false, 394) := by decide +kernel
theorem mo_3_29 : methOf 3 29 = some (3, 29, 90, true, 398) := by decide +kernel
theorem mo_8_61 : methOf 8 61 = some (8, 61, 66, false, 399) := by decide +kernel
theorem mo_6_126 : methOf 6 126 = some (6, 126, 23, false, 403) := by decide +kernel
theorem mo_8_65 : methOf 8 65 = some (8, 65, 67, false, 407) := by decide +kernel
theorem mo_6_128 : methOf 6 128 = some (6, 128, 3, false, 412) := by decide +kernel
theorem mo_1_41 : methOf 1 41 = some (1, 41, 7, false, 416) := by decide +kernel
theorem mo_1_45 : methOf 1 45 = some (1, 45, 52, false, 420) := by decide +kernel
theorem mo_1_49 : methOf 1 49 = some (1, 49, 38, false, 421) := by decide +kernel
theorem mo_1_53 : methOf 1 53 = some (1, 53, 5, false, 422) := by decide +kernel
theorem mo_1_61 : methOf 1 61 = some (1, 61, 9, false, 426) := by decide +kernel
theorem mo_1_100 : methOf 1 100 = some (1, 100, 90, true, 430) := by decide +kernel
theorem mo_1_65 : methOf 1 65 = some (1, 65, 17, false, 431) := by decide +kernel
theorem mo_1_57 : methOf 1 57 = some (1, 57, 89, true, 432) := by decide +kernel
theorem mo_1_82 : methOf 1 82 = some (1, 82, 18, false, 433) := by decide +kernel
theorem mo_3_25 : methOf 3 25 = some (3, 25, 89, true, 437) := by decide +kernel
theorem mo_1_93 : methOf 1 93 = some (1, 93, 19, false, 438) := by decide +kernel
theorem mo_1_107 : methOf 1 107 = some (1, 107, 201, false, 442) := by decide +kernel
theorem mo_1_113 : methOf 1 113 = some (1, 113, 41, false, 443) := by decide +kernel
theorem mo_1_70 : methOf 1 70 = some (1, 70, 91, true, 444) := by decide +kernel
theorem mo_1_74 : methOf 1 74 = some (1, 74, 8, false, 445) := by decide +kernel
theorem mo_1_104 : methOf 1 104 = some (1, 104, 20, false, 449) := by decide +kernel
theorem mo_1_78 : methOf 1 78 = some (1, 78, 6, false, 453) := by decide +kernel
theorem mo_1_86 : methOf 1 86 = some (1, 86, 45, false, 457) := by decide +kernel
theorem mo_1_89 : methOf 1 89 = some (1, 89, 48, false, 458) := by decide +kernel
theorem mo_1_96 : methOf 1 96 = some (1, 96, 46, false, 459) := by decide +kernel
theorem mo_6_132 : methOf 6 132 = some (6, 132, 21, false, 460) := by decide +kernel
theorem mo_6_135 : methOf 6 135 = some (6, 135, 4, false, 464) := by decide +kernel
theorem mo_8_69 : methOf 8 69 = some (8, 69, 68, false, 468) := by decide +kernel
theorem mo_8_73 : methOf 8 73 = some (8, 73, 69, false, 472) := by decide +kernel
theorem mo_6_138 : methOf 6 138 = some (6, 138, 202, false, 476) := by decide +kernel
theorem mo_6_143 : methOf 6 143 = some (6, 143, 48, false, 477) := by decide +kernel
theorem mo_8_78 : methOf 8 78 = some (8, 78, 70, false, 478) := by decide +kernel
theorem mo_6_147 : methOf 6 147 = some (6, 147, 84, false, 482) := by decide +kernel
theorem mo_6_220 : methOf 6 220 = some (6, 220, 201, false, 485) := by decide +kernel
theorem mo_8_82 : methOf 8 82 = some (8, 82, 71, false, 486) := by decide +kernel
theorem mo_6_155 : methOf 6 155 = some (6, 155, 12, false, 490) := by decide +kernel
theorem mo_2_22 : methOf 2 22 = some (2, 22, 90, true, 494) := by decide +kernel
theorem mo_6_160 : methOf 6 160 = some (6, 160, 11, false, 495) := by decide +kernel
theorem mo_8_86 : methOf 8 86 = some (8, 86, 72, false, 499) := by decide +kernel
theorem mo_6_161 : methOf 6 161 = some (6, 161, 13, false, 503) := by decide +kernel
theorem mo_8_90 : methOf 8 90 = some (8, 90, 73, false, 507) := by decide +kernel
theorem mo_6_165 : methOf 6 165 = some (6, 165, 83, false, 511) := by decide +kernel
theorem mo_6_168 : methOf 6 168 = some (6, 168, 82, false, 514) := by decide +kernel
theorem mo_6_216 : methOf 6 216 = some (6, 216, 90, false, 518) := by decide +kernel
theorem mo_6_171 : methOf 6 171 = some (6, 171, 81, false, 519) := by decide +kernel
theorem mo_6_212 : methOf 6 212 = some (6, 212, 14, false, 523) := by decide +kernel
theorem mo_2_26 : methOf 2 26 = some (2, 26, 89, true, 527) := by decide +kernel
theorem mo_2_30 : methOf 2 30 = some (2, 30, 41, false, 528) := by decide +kernel
theorem mo_6_175 : methOf 6 175 = some (6, 175, 89, false, 529) := by decide +kernel
theorem mo_8_94 : methOf 8 94 = some (8, 94, 74, false, 530) := by decide +kernel
theorem mo_6_185 : methOf 6 185 = some (6, 185, 32, false, 537) := by decide +kernel
theorem mo_4_53 : methOf 4 53 = some (4, 53, 45, false, 541) := by decide +kernel
theorem mo_4_59 : methOf 4 59 = some (4, 59, 201, false, 542) := by decide +kernel
theorem mo_6_189 : methOf 6 189 = some (6, 189, 86, false, 543) := by decide +kernel
theorem mo_8_99 : methOf 8 99 = some (8, 99, 75, false, 548) := by decide +kernel
theorem mo_8_103 : methOf 8 103 = some (8, 103, 76, false, 553) := by decide +kernel
theorem mo_6_195 : methOf 6 195 = some (6, 195, 85, false, 557) := by decide +kernel
theorem mo_6_199 : methOf 6 199 = some (6, 199, 1, false, 561) := by decide +kernel
theorem mo_0_34 : methOf 0 34 = some (0, 34, 52, false, 565) := by decide +kernel
theorem mo_0_38 : methOf 0 38 = some (0, 38, 24, false, 566) := by decide +kernel
theorem mo_3_33 : methOf 3 33 = some (3, 33, 91, true, 570) := by decide +kernel
theorem mo_0_41 : methOf 0 41 = some (0, 41, 15, false, 571) := by decide +kernel
theorem mo_2_36 : methOf 2 36 = some (2, 36, 91, true, 575) := by decide +kernel
theorem mo_8_107 : methOf 8 107 = some (8, 107, 77, false, 576) := by decide +kernel
theorem mo_8_111 : methOf 8 111 = some (8, 111, 78, false, 580) := by decide +kernel
theorem mo_6_206 : methOf 6 206 = some (6, 206, 39, false, 584) := by decide +kernel
theorem mo_6_209 : methOf 6 209 = some (6, 209, 40, false, 588) := by decide +kernel
theorem mo_8_12 : methOf 8 12 = some (8, 12, 92, false, 594) := by decide +kernel
theorem mo_7_1 : methOf 7 1 = some (7, 1, 200, false, 597) := by decide +kernel
theorem mo_8_17 : methOf 8 17 = some (8, 17, 95, false, 660) := by decide +kernel
theorem mo_7_48 : methOf 7 48 = some (7, 48, 93, false, 664) := by decide +kernel
theorem mo_8_22 : methOf 8 22 = some (8, 22, 96, false, 667) := by decide +kernel
theorem mo_8_27 : methOf 8 27 = some (8, 27, 97, false, 671) := by decide +kernel
theorem mo_8_31 : methOf 8 31 = some (8, 31, 99, false, 675) := by decide +kernel
theorem mo_7_55 : methOf 7 55 = some (7, 55, 98, false, 679) := by decide +kernel
theorem mo_8_35 : methOf 8 35 = some (8, 35, 108, false, 683) := by decide +kernel
theorem mo_7_82 : methOf 7 82 = some (7, 82, 100, false, 687) := by decide +kernel
theorem mo_7_96 : methOf 7 96 = some (7, 96, 107, false, 691) := by decide +kernel
theorem mo_7_79 : methOf 7 79 = some (7, 79, 101, false, 695) := by decide +kernel
theorem mo_7_85 : methOf 7 85 = some (7, 85, 106, false, 699) := by decide +kernel
theorem mo_7_89 : methOf 7 89 = some (7, 89, 105, false, 703) := by decide +kernel
theorem mo_7_66 : methOf 7 66 = some (7, 66, 103, false, 707) := by decide +kernel
theorem mo_7_62 : methOf 7 62 = some (7, 62, 102, false, 711) := by decide +kernel
theorem mo_7_92 : methOf 7 92 = some (7, 92, 104, false, 715) := by decide +kernel
theorem mo_8_39 : methOf 8 39 = some (8, 39, 110, false, 719) := by decide +kernel
theorem mo_7_99 : methOf 7 99 = some (7, 99, 109, false, 723) := by decide +kernel
theorem mo_8_43 : methOf 8 43 = some (8, 43, 111, false, 727) := by decide +kernel
theorem mo_7_102 : methOf 7 102 = some (7, 102, 94, false, 731) := by decide +kernel
theorem mo_8_47 : methOf 8 47 = some (8, 47, 112, false, 734) := by decide +kernel
theorem mo_8_51 : methOf 8 51 = some (8, 51, 113, false, 738) := by decide +kernel
theorem mo_8_56 : methOf 8 56 = some (8, 56, 114, false, 742) := by decide +kernel
theorem mo_8_60 : methOf 8 60 = some (8, 60, 115, false, 746) := by decide +kernel
theorem mo_8_64 : methOf 8 64 = some (8, 64, 116, false, 750) := by decide +kernel
theorem mo_8_68 : methOf 8 68 = some (8, 68, 122, false, 754) := by decide +kernel
theorem mo_7_122 : methOf 7 122 = some (7, 122, 120, false, 758) := by decide +kernel
theorem mo_7_115 : methOf 7 115 = some (7, 115, 119, false, 762) := by decide +kernel
theorem mo_7_119 : methOf 7 119 = some (7, 119, 117, false, 766) := by decide +kernel
theorem mo_7_109 : methOf 7 109 = some (7, 109, 118, false, 770) := by decide +kernel
theorem mo_7_125 : methOf 7 125 = some (7, 125, 121, false, 774) := by decide +kernel
theorem mo_8_72 : methOf 8 72 = some (8, 72, 123, false, 778) := by decide +kernel
theorem mo_8_77 : methOf 8 77 = some (8, 77, 124, false, 782) := by decide +kernel
theorem mo_8_81 : methOf 8 81 = some (8, 81, 125, false, 786) := by decide +kernel
theorem mo_8_85 : methOf 8 85 = some (8, 85, 126, false, 790) := by decide +kernel
theorem mo_8_89 : methOf 8 89 = some (8, 89, 127, false, 794) := by decide +kernel
theorem mo_8_93 : methOf 8 93 = some (8, 93, 128, false, 798) := by decide +kernel
theorem mo_8_98 : methOf 8 98 = some (8, 98, 129, false, 802) := by decide +kernel
theorem mo_8_102 : methOf 8 102 = some (8, 102, 130, false, 810) := by decide +kernel
theorem mo_8_106 : methOf 8 106 = some (8, 106, 131, false, 815) := by decide +kernel
theorem mo_8_110 : methOf 8 110 = some (8, 110, 132, false, 819) := by decide +kernel
theorem mo_8_114 : methOf 8 114 = some (8, 114, 133, false, 823) := by decide +kernel
theorem no_8_7 : NC.find? (fun q => q.1 == 8 && q.2.1 == 7) = some (8, 7, 6, 40, 41, 31) := by decide +kernel
theorem no_6_7 : NC.find? (fun q => q.1 == 6 && q.2.1 == 7) = some (6, 7, 0, 48, 49, 32) := by decide +kernel
theorem no_0_7 : NC.find? (fun q => q.1 == 0 && q.2.1 == 7) = some (0, 7, 5, 54, 55, 33) := by decide +kernel
theorem no_0_16 : NC.find? (fun q => q.1 == 0 && q.2.1 == 16) = some (0, 16, 3, 74, 75, 34) := by decide +kernel
theorem no_0_23 : NC.find? (fun q => q.1 == 0 && q.2.1 == 23) = some (0, 23, 2, 93, 94, 35) := by decide +kernel
theorem no_6_22 : NC.find? (fun q => q.1 == 6 && q.2.1 == 22) = some (6, 22, 4, 126, 127, 36) := by decide +kernel
theorem no_6_29 : NC.find? (fun q => q.1 == 6 && q.2.1 == 29) = some (6, 29, 5, 157, 55, 33) := by decide +kernel
theorem no_6_36 : NC.find? (fun q => q.1 == 6 && q.2.1 == 36) = some (6, 36, 1, 159, 160, 37) := by decide +kernel
theorem no_1_9 : NC.find? (fun q => q.1 == 1 && q.2.1 == 9) = some (1, 9, 5, 165, 55, 33) := by decide +kernel
theorem no_8_10 : NC.find? (fun q => q.1 == 8 && q.2.1 == 10) = some (8, 10, 7, 592, 593, 38) := by decide +kernel

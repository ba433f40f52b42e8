/-! what the objects are: written by wip/whole/gen_sh.py -/
def SH (L : Nat) : List PS := [(11, L, []),
  (6, 0, [some (some 2), some (some 12), some (some 22), some (some 32), some (some 37), some (some 39), some (some 62)]),
  (0, 0, [some (some 3), some (some 5), some (some 9), none]),
  (5, 0, [some (some 4), none, none, none]),
  (8, 6, []),
  (3, 0, [some (some 6), some (some 7), some (some 8), none]),
  (8, 7, []),
  (8, 7, []),
  (8, 7, []),
  (2, 0, [some (some 10), some (some 11), none]),
  (8, 6, []),
  (8, 6, []),
  (0, 0, [some (some 13), some (some 15), some (some 19), none]),
  (5, 0, [some (some 14), none, none, none]),
  (8, 6, []),
  (3, 0, [some (some 16), some (some 17), some (some 18), none]),
  (8, 7, []),
  (8, 7, []),
  (8, 7, []),
  (2, 0, [some (some 20), some (some 21), none]),
  (8, 6, []),
  (8, 6, []),
  (0, 0, [some (some 23), some (some 25), some (some 29), none]),
  (5, 0, [some (some 24), none, none, none]),
  (8, 6, []),
  (3, 0, [some (some 26), some (some 27), some (some 28), none]),
  (8, 7, []),
  (8, 7, []),
  (8, 7, []),
  (2, 0, [some (some 30), some (some 31), none]),
  (8, 6, []),
  (8, 6, []),
  (4, 0, [some (some 33), none, some (some 34), some (some 35), some (some 36), none, none, none]),
  (8, 60, []),
  (8, 60, []),
  (8, 60, []),
  (8, 60, []),
  (5, 0, [some (some 38), none, none, none]),
  (8, 6, []),
  (1, 0, [some (some 40), some (some 41), some (some 42), some (some 43), some (some 44), some (some 45), none, none]),
  (10, 8, [some (some 46), some (some 48), some (some 50), some (some 52), some (some 54), some (some 56), some (some 58), some (some 60)]),
  (8, 7, []),
  (8, 7, []),
  (8, 7, []),
  (8, 6, []),
  (8, 6, []),
  (5, 0, [some (some 47), none, none, none]),
  (8, 6, []),
  (5, 0, [some (some 49), none, none, none]),
  (8, 6, []),
  (5, 0, [some (some 51), none, none, none]),
  (8, 6, []),
  (5, 0, [some (some 53), none, none, none]),
  (8, 6, []),
  (5, 0, [some (some 55), none, none, none]),
  (8, 6, []),
  (5, 0, [some (some 57), none, none, none]),
  (8, 6, []),
  (5, 0, [some (some 59), none, none, none]),
  (8, 6, []),
  (5, 0, [some (some 61), none, none, none]),
  (8, 6, []),
  (8, 3, []),
  (7, 0, [none, none, none, some (some 64), none, some (some 65), none, some (some 66), none, some (some 67), some (some 68), none, none, none, none, some (some 69), some (some 70), none, some (some 71), some (some 72)]),
  (8, 6, []),
  (8, 21, []),
  (8, 12, []),
  (8, 60, []),
  (8, 6, []),
  (8, 7, []),
  (8, 7, []),
  (8, 96, []),
  (9, 2, [])]
section SHF
variable {L : Nat} {M : PM} {x i : Int}
theorem io_1 : isObj (SH L) (some (.inr (.inr (some 1)))) 6 = true := rfl
theorem gf_1_0 : getf (SH L) M 1 6 0 = some (.inr (.inr (some 2))) := rfl
theorem gf_1_1 : getf (SH L) M 1 6 1 = some (.inr (.inr (some 12))) := rfl
theorem gf_1_2 : getf (SH L) M 1 6 2 = some (.inr (.inr (some 22))) := rfl
theorem gf_1_3 : getf (SH L) M 1 6 3 = some (.inr (.inr (some 32))) := rfl
theorem gf_1_4 : getf (SH L) M 1 6 4 = some (.inr (.inr (some 37))) := rfl
theorem gf_1_5 : getf (SH L) M 1 6 5 = some (.inr (.inr (some 39))) := rfl
theorem gf_1_6 : getf (SH L) M 1 6 6 = some (.inr (.inr (some 62))) := rfl
theorem io_2 : isObj (SH L) (some (.inr (.inr (some 2)))) 0 = true := rfl
theorem gf_2_0 : getf (SH L) M 2 0 0 = some (.inr (.inr (some 3))) := rfl
theorem gf_2_1 : getf (SH L) M 2 0 1 = some (.inr (.inr (some 5))) := rfl
theorem gf_2_2 : getf (SH L) M 2 0 2 = some (.inr (.inr (some 9))) := rfl
theorem gf_2_3 : getf (SH L) M 2 0 3 = some (.inl (M 2 3)) := rfl
theorem pi_2_3 : putI (SH L) M 2 0 3 true 1 = some (setC M 2 3 1) := rfl
theorem io_3 : isObj (SH L) (some (.inr (.inr (some 3)))) 5 = true := rfl
theorem gf_3_0 : getf (SH L) M 3 5 0 = some (.inr (.inr (some 4))) := rfl
theorem gf_3_1 : getf (SH L) M 3 5 1 = some (.inl (M 3 1)) := rfl
theorem pi_3_1 : putI (SH L) M 3 5 1 false x = some (setC M 3 1 x) := rfl
theorem gf_3_2 : getf (SH L) M 3 5 2 = some (.inl (M 3 2)) := rfl
theorem pi_3_2 : putI (SH L) M 3 5 2 false x = some (setC M 3 2 x) := rfl
theorem gf_3_3 : getf (SH L) M 3 5 3 = some (.inl (M 3 3)) := rfl
theorem pi_3_3 : putI (SH L) M 3 5 3 false x = some (setC M 3 3 x) := rfl
theorem vl_3 : VL (SH L) 3 := ⟨by decide, rfl, ⟨by decide, [], rfl⟩⟩
theorem ar_4 : AR (SH L) 4 6 := ⟨by decide, [], rfl⟩
theorem io_5 : isObj (SH L) (some (.inr (.inr (some 5)))) 3 = true := rfl
theorem gf_5_0 : getf (SH L) M 5 3 0 = some (.inr (.inr (some 6))) := rfl
theorem gf_5_1 : getf (SH L) M 5 3 1 = some (.inr (.inr (some 7))) := rfl
theorem gf_5_2 : getf (SH L) M 5 3 2 = some (.inr (.inr (some 8))) := rfl
theorem gf_5_3 : getf (SH L) M 5 3 3 = some (.inl (M 5 3)) := rfl
theorem pi_5_3 : putI (SH L) M 5 3 3 false x = some (setC M 5 3 x) := rfl
theorem ar_6 : AR (SH L) 6 7 := ⟨by decide, [], rfl⟩
theorem ar_7 : AR (SH L) 7 7 := ⟨by decide, [], rfl⟩
theorem ar_8 : AR (SH L) 8 7 := ⟨by decide, [], rfl⟩
theorem io_9 : isObj (SH L) (some (.inr (.inr (some 9)))) 2 = true := rfl
theorem gf_9_0 : getf (SH L) M 9 2 0 = some (.inr (.inr (some 10))) := rfl
theorem gf_9_1 : getf (SH L) M 9 2 1 = some (.inr (.inr (some 11))) := rfl
theorem gf_9_2 : getf (SH L) M 9 2 2 = some (.inl (M 9 2)) := rfl
theorem pi_9_2 : putI (SH L) M 9 2 2 false x = some (setC M 9 2 x) := rfl
theorem ar_10 : AR (SH L) 10 6 := ⟨by decide, [], rfl⟩
theorem ar_11 : AR (SH L) 11 6 := ⟨by decide, [], rfl⟩
theorem io_12 : isObj (SH L) (some (.inr (.inr (some 12)))) 0 = true := rfl
theorem gf_12_0 : getf (SH L) M 12 0 0 = some (.inr (.inr (some 13))) := rfl
theorem gf_12_1 : getf (SH L) M 12 0 1 = some (.inr (.inr (some 15))) := rfl
theorem gf_12_2 : getf (SH L) M 12 0 2 = some (.inr (.inr (some 19))) := rfl
theorem gf_12_3 : getf (SH L) M 12 0 3 = some (.inl (M 12 3)) := rfl
theorem pi_12_3 : putI (SH L) M 12 0 3 true 1 = some (setC M 12 3 1) := rfl
theorem io_13 : isObj (SH L) (some (.inr (.inr (some 13)))) 5 = true := rfl
theorem gf_13_0 : getf (SH L) M 13 5 0 = some (.inr (.inr (some 14))) := rfl
theorem gf_13_1 : getf (SH L) M 13 5 1 = some (.inl (M 13 1)) := rfl
theorem pi_13_1 : putI (SH L) M 13 5 1 false x = some (setC M 13 1 x) := rfl
theorem gf_13_2 : getf (SH L) M 13 5 2 = some (.inl (M 13 2)) := rfl
theorem pi_13_2 : putI (SH L) M 13 5 2 false x = some (setC M 13 2 x) := rfl
theorem gf_13_3 : getf (SH L) M 13 5 3 = some (.inl (M 13 3)) := rfl
theorem pi_13_3 : putI (SH L) M 13 5 3 false x = some (setC M 13 3 x) := rfl
theorem vl_13 : VL (SH L) 13 := ⟨by decide, rfl, ⟨by decide, [], rfl⟩⟩
theorem ar_14 : AR (SH L) 14 6 := ⟨by decide, [], rfl⟩
theorem io_15 : isObj (SH L) (some (.inr (.inr (some 15)))) 3 = true := rfl
theorem gf_15_0 : getf (SH L) M 15 3 0 = some (.inr (.inr (some 16))) := rfl
theorem gf_15_1 : getf (SH L) M 15 3 1 = some (.inr (.inr (some 17))) := rfl
theorem gf_15_2 : getf (SH L) M 15 3 2 = some (.inr (.inr (some 18))) := rfl
theorem gf_15_3 : getf (SH L) M 15 3 3 = some (.inl (M 15 3)) := rfl
theorem pi_15_3 : putI (SH L) M 15 3 3 false x = some (setC M 15 3 x) := rfl
theorem ar_16 : AR (SH L) 16 7 := ⟨by decide, [], rfl⟩
theorem ar_17 : AR (SH L) 17 7 := ⟨by decide, [], rfl⟩
theorem ar_18 : AR (SH L) 18 7 := ⟨by decide, [], rfl⟩
theorem io_19 : isObj (SH L) (some (.inr (.inr (some 19)))) 2 = true := rfl
theorem gf_19_0 : getf (SH L) M 19 2 0 = some (.inr (.inr (some 20))) := rfl
theorem gf_19_1 : getf (SH L) M 19 2 1 = some (.inr (.inr (some 21))) := rfl
theorem gf_19_2 : getf (SH L) M 19 2 2 = some (.inl (M 19 2)) := rfl
theorem pi_19_2 : putI (SH L) M 19 2 2 false x = some (setC M 19 2 x) := rfl
theorem ar_20 : AR (SH L) 20 6 := ⟨by decide, [], rfl⟩
theorem ar_21 : AR (SH L) 21 6 := ⟨by decide, [], rfl⟩
theorem io_22 : isObj (SH L) (some (.inr (.inr (some 22)))) 0 = true := rfl
theorem gf_22_0 : getf (SH L) M 22 0 0 = some (.inr (.inr (some 23))) := rfl
theorem gf_22_1 : getf (SH L) M 22 0 1 = some (.inr (.inr (some 25))) := rfl
theorem gf_22_2 : getf (SH L) M 22 0 2 = some (.inr (.inr (some 29))) := rfl
theorem gf_22_3 : getf (SH L) M 22 0 3 = some (.inl (M 22 3)) := rfl
theorem pi_22_3 : putI (SH L) M 22 0 3 true 1 = some (setC M 22 3 1) := rfl
theorem io_23 : isObj (SH L) (some (.inr (.inr (some 23)))) 5 = true := rfl
theorem gf_23_0 : getf (SH L) M 23 5 0 = some (.inr (.inr (some 24))) := rfl
theorem gf_23_1 : getf (SH L) M 23 5 1 = some (.inl (M 23 1)) := rfl
theorem pi_23_1 : putI (SH L) M 23 5 1 false x = some (setC M 23 1 x) := rfl
theorem gf_23_2 : getf (SH L) M 23 5 2 = some (.inl (M 23 2)) := rfl
theorem pi_23_2 : putI (SH L) M 23 5 2 false x = some (setC M 23 2 x) := rfl
theorem gf_23_3 : getf (SH L) M 23 5 3 = some (.inl (M 23 3)) := rfl
theorem pi_23_3 : putI (SH L) M 23 5 3 false x = some (setC M 23 3 x) := rfl
theorem vl_23 : VL (SH L) 23 := ⟨by decide, rfl, ⟨by decide, [], rfl⟩⟩
theorem ar_24 : AR (SH L) 24 6 := ⟨by decide, [], rfl⟩
theorem io_25 : isObj (SH L) (some (.inr (.inr (some 25)))) 3 = true := rfl
theorem gf_25_0 : getf (SH L) M 25 3 0 = some (.inr (.inr (some 26))) := rfl
theorem gf_25_1 : getf (SH L) M 25 3 1 = some (.inr (.inr (some 27))) := rfl
theorem gf_25_2 : getf (SH L) M 25 3 2 = some (.inr (.inr (some 28))) := rfl
theorem gf_25_3 : getf (SH L) M 25 3 3 = some (.inl (M 25 3)) := rfl
theorem pi_25_3 : putI (SH L) M 25 3 3 false x = some (setC M 25 3 x) := rfl
theorem ar_26 : AR (SH L) 26 7 := ⟨by decide, [], rfl⟩
theorem ar_27 : AR (SH L) 27 7 := ⟨by decide, [], rfl⟩
theorem ar_28 : AR (SH L) 28 7 := ⟨by decide, [], rfl⟩
theorem io_29 : isObj (SH L) (some (.inr (.inr (some 29)))) 2 = true := rfl
theorem gf_29_0 : getf (SH L) M 29 2 0 = some (.inr (.inr (some 30))) := rfl
theorem gf_29_1 : getf (SH L) M 29 2 1 = some (.inr (.inr (some 31))) := rfl
theorem gf_29_2 : getf (SH L) M 29 2 2 = some (.inl (M 29 2)) := rfl
theorem pi_29_2 : putI (SH L) M 29 2 2 false x = some (setC M 29 2 x) := rfl
theorem ar_30 : AR (SH L) 30 6 := ⟨by decide, [], rfl⟩
theorem ar_31 : AR (SH L) 31 6 := ⟨by decide, [], rfl⟩
theorem io_32 : isObj (SH L) (some (.inr (.inr (some 32)))) 4 = true := rfl
theorem gf_32_0 : getf (SH L) M 32 4 0 = some (.inr (.inr (some 33))) := rfl
theorem gf_32_1 : getf (SH L) M 32 4 1 = some (.inl (M 32 1)) := rfl
theorem pi_32_1 : putI (SH L) M 32 4 1 false x = some (setC M 32 1 x) := rfl
theorem gf_32_2 : getf (SH L) M 32 4 2 = some (.inr (.inr (some 34))) := rfl
theorem gf_32_3 : getf (SH L) M 32 4 3 = some (.inr (.inr (some 35))) := rfl
theorem gf_32_4 : getf (SH L) M 32 4 4 = some (.inr (.inr (some 36))) := rfl
theorem gf_32_5 : getf (SH L) M 32 4 5 = some (.inl (M 32 5)) := rfl
theorem pi_32_5 : putI (SH L) M 32 4 5 false x = some (setC M 32 5 x) := rfl
theorem gf_32_6 : getf (SH L) M 32 4 6 = some (.inl (M 32 6)) := rfl
theorem pi_32_6 : putI (SH L) M 32 4 6 false x = some (setC M 32 6 x) := rfl
theorem gf_32_7 : getf (SH L) M 32 4 7 = some (.inl (M 32 7)) := rfl
theorem pi_32_7 : putI (SH L) M 32 4 7 false x = some (setC M 32 7 x) := rfl
theorem ar_33 : AR (SH L) 33 60 := ⟨by decide, [], rfl⟩
theorem ar_34 : AR (SH L) 34 60 := ⟨by decide, [], rfl⟩
theorem ar_35 : AR (SH L) 35 60 := ⟨by decide, [], rfl⟩
theorem ar_36 : AR (SH L) 36 60 := ⟨by decide, [], rfl⟩
theorem io_37 : isObj (SH L) (some (.inr (.inr (some 37)))) 5 = true := rfl
theorem gf_37_0 : getf (SH L) M 37 5 0 = some (.inr (.inr (some 38))) := rfl
theorem gf_37_1 : getf (SH L) M 37 5 1 = some (.inl (M 37 1)) := rfl
theorem pi_37_1 : putI (SH L) M 37 5 1 false x = some (setC M 37 1 x) := rfl
theorem gf_37_2 : getf (SH L) M 37 5 2 = some (.inl (M 37 2)) := rfl
theorem pi_37_2 : putI (SH L) M 37 5 2 false x = some (setC M 37 2 x) := rfl
theorem gf_37_3 : getf (SH L) M 37 5 3 = some (.inl (M 37 3)) := rfl
theorem pi_37_3 : putI (SH L) M 37 5 3 false x = some (setC M 37 3 x) := rfl
theorem vl_37 : VL (SH L) 37 := ⟨by decide, rfl, ⟨by decide, [], rfl⟩⟩
theorem ar_38 : AR (SH L) 38 6 := ⟨by decide, [], rfl⟩
theorem io_39 : isObj (SH L) (some (.inr (.inr (some 39)))) 1 = true := rfl
theorem gf_39_0 : getf (SH L) M 39 1 0 = some (.inr (.inr (some 40))) := rfl
theorem gf_39_1 : getf (SH L) M 39 1 1 = some (.inr (.inr (some 41))) := rfl
theorem gf_39_2 : getf (SH L) M 39 1 2 = some (.inr (.inr (some 42))) := rfl
theorem gf_39_3 : getf (SH L) M 39 1 3 = some (.inr (.inr (some 43))) := rfl
theorem gf_39_4 : getf (SH L) M 39 1 4 = some (.inr (.inr (some 44))) := rfl
theorem gf_39_5 : getf (SH L) M 39 1 5 = some (.inr (.inr (some 45))) := rfl
theorem gf_39_6 : getf (SH L) M 39 1 6 = some (.inl (M 39 6)) := rfl
theorem pi_39_6 : putI (SH L) M 39 1 6 false x = some (setC M 39 6 x) := rfl
theorem gf_39_7 : getf (SH L) M 39 1 7 = some (.inl (M 39 7)) := rfl
theorem pi_39_7 : putI (SH L) M 39 1 7 false x = some (setC M 39 7 x) := rfl
theorem ar_41 : AR (SH L) 41 7 := ⟨by decide, [], rfl⟩
theorem ar_42 : AR (SH L) 42 7 := ⟨by decide, [], rfl⟩
theorem ar_43 : AR (SH L) 43 7 := ⟨by decide, [], rfl⟩
theorem ar_44 : AR (SH L) 44 6 := ⟨by decide, [], rfl⟩
theorem ar_45 : AR (SH L) 45 6 := ⟨by decide, [], rfl⟩
theorem io_46 : isObj (SH L) (some (.inr (.inr (some 46)))) 5 = true := rfl
theorem gf_46_0 : getf (SH L) M 46 5 0 = some (.inr (.inr (some 47))) := rfl
theorem gf_46_1 : getf (SH L) M 46 5 1 = some (.inl (M 46 1)) := rfl
theorem pi_46_1 : putI (SH L) M 46 5 1 false x = some (setC M 46 1 x) := rfl
theorem gf_46_2 : getf (SH L) M 46 5 2 = some (.inl (M 46 2)) := rfl
theorem pi_46_2 : putI (SH L) M 46 5 2 false x = some (setC M 46 2 x) := rfl
theorem gf_46_3 : getf (SH L) M 46 5 3 = some (.inl (M 46 3)) := rfl
theorem pi_46_3 : putI (SH L) M 46 5 3 false x = some (setC M 46 3 x) := rfl
theorem vl_46 : VL (SH L) 46 := ⟨by decide, rfl, ⟨by decide, [], rfl⟩⟩
theorem ar_47 : AR (SH L) 47 6 := ⟨by decide, [], rfl⟩
theorem io_48 : isObj (SH L) (some (.inr (.inr (some 48)))) 5 = true := rfl
theorem gf_48_0 : getf (SH L) M 48 5 0 = some (.inr (.inr (some 49))) := rfl
theorem gf_48_1 : getf (SH L) M 48 5 1 = some (.inl (M 48 1)) := rfl
theorem pi_48_1 : putI (SH L) M 48 5 1 false x = some (setC M 48 1 x) := rfl
theorem gf_48_2 : getf (SH L) M 48 5 2 = some (.inl (M 48 2)) := rfl
theorem pi_48_2 : putI (SH L) M 48 5 2 false x = some (setC M 48 2 x) := rfl
theorem gf_48_3 : getf (SH L) M 48 5 3 = some (.inl (M 48 3)) := rfl
theorem pi_48_3 : putI (SH L) M 48 5 3 false x = some (setC M 48 3 x) := rfl
theorem vl_48 : VL (SH L) 48 := ⟨by decide, rfl, ⟨by decide, [], rfl⟩⟩
theorem ar_49 : AR (SH L) 49 6 := ⟨by decide, [], rfl⟩
theorem io_50 : isObj (SH L) (some (.inr (.inr (some 50)))) 5 = true := rfl
theorem gf_50_0 : getf (SH L) M 50 5 0 = some (.inr (.inr (some 51))) := rfl
theorem gf_50_1 : getf (SH L) M 50 5 1 = some (.inl (M 50 1)) := rfl
theorem pi_50_1 : putI (SH L) M 50 5 1 false x = some (setC M 50 1 x) := rfl
theorem gf_50_2 : getf (SH L) M 50 5 2 = some (.inl (M 50 2)) := rfl
theorem pi_50_2 : putI (SH L) M 50 5 2 false x = some (setC M 50 2 x) := rfl
theorem gf_50_3 : getf (SH L) M 50 5 3 = some (.inl (M 50 3)) := rfl
theorem pi_50_3 : putI (SH L) M 50 5 3 false x = some (setC M 50 3 x) := rfl
theorem vl_50 : VL (SH L) 50 := ⟨by decide, rfl, ⟨by decide, [], rfl⟩⟩
theorem ar_51 : AR (SH L) 51 6 := ⟨by decide, [], rfl⟩
theorem io_52 : isObj (SH L) (some (.inr (.inr (some 52)))) 5 = true := rfl
theorem gf_52_0 : getf (SH L) M 52 5 0 = some (.inr (.inr (some 53))) := rfl
theorem gf_52_1 : getf (SH L) M 52 5 1 = some (.inl (M 52 1)) := rfl
theorem pi_52_1 : putI (SH L) M 52 5 1 false x = some (setC M 52 1 x) := rfl
theorem gf_52_2 : getf (SH L) M 52 5 2 = some (.inl (M 52 2)) := rfl
theorem pi_52_2 : putI (SH L) M 52 5 2 false x = some (setC M 52 2 x) := rfl
theorem gf_52_3 : getf (SH L) M 52 5 3 = some (.inl (M 52 3)) := rfl
theorem pi_52_3 : putI (SH L) M 52 5 3 false x = some (setC M 52 3 x) := rfl
theorem vl_52 : VL (SH L) 52 := ⟨by decide, rfl, ⟨by decide, [], rfl⟩⟩
theorem ar_53 : AR (SH L) 53 6 := ⟨by decide, [], rfl⟩
theorem io_54 : isObj (SH L) (some (.inr (.inr (some 54)))) 5 = true := rfl
theorem gf_54_0 : getf (SH L) M 54 5 0 = some (.inr (.inr (some 55))) := rfl
theorem gf_54_1 : getf (SH L) M 54 5 1 = some (.inl (M 54 1)) := rfl
theorem pi_54_1 : putI (SH L) M 54 5 1 false x = some (setC M 54 1 x) := rfl
theorem gf_54_2 : getf (SH L) M 54 5 2 = some (.inl (M 54 2)) := rfl
theorem pi_54_2 : putI (SH L) M 54 5 2 false x = some (setC M 54 2 x) := rfl
theorem gf_54_3 : getf (SH L) M 54 5 3 = some (.inl (M 54 3)) := rfl
theorem pi_54_3 : putI (SH L) M 54 5 3 false x = some (setC M 54 3 x) := rfl
theorem vl_54 : VL (SH L) 54 := ⟨by decide, rfl, ⟨by decide, [], rfl⟩⟩
theorem ar_55 : AR (SH L) 55 6 := ⟨by decide, [], rfl⟩
theorem io_56 : isObj (SH L) (some (.inr (.inr (some 56)))) 5 = true := rfl
theorem gf_56_0 : getf (SH L) M 56 5 0 = some (.inr (.inr (some 57))) := rfl
theorem gf_56_1 : getf (SH L) M 56 5 1 = some (.inl (M 56 1)) := rfl
theorem pi_56_1 : putI (SH L) M 56 5 1 false x = some (setC M 56 1 x) := rfl
theorem gf_56_2 : getf (SH L) M 56 5 2 = some (.inl (M 56 2)) := rfl
theorem pi_56_2 : putI (SH L) M 56 5 2 false x = some (setC M 56 2 x) := rfl
theorem gf_56_3 : getf (SH L) M 56 5 3 = some (.inl (M 56 3)) := rfl
theorem pi_56_3 : putI (SH L) M 56 5 3 false x = some (setC M 56 3 x) := rfl
theorem vl_56 : VL (SH L) 56 := ⟨by decide, rfl, ⟨by decide, [], rfl⟩⟩
theorem ar_57 : AR (SH L) 57 6 := ⟨by decide, [], rfl⟩
theorem io_58 : isObj (SH L) (some (.inr (.inr (some 58)))) 5 = true := rfl
theorem gf_58_0 : getf (SH L) M 58 5 0 = some (.inr (.inr (some 59))) := rfl
theorem gf_58_1 : getf (SH L) M 58 5 1 = some (.inl (M 58 1)) := rfl
theorem pi_58_1 : putI (SH L) M 58 5 1 false x = some (setC M 58 1 x) := rfl
theorem gf_58_2 : getf (SH L) M 58 5 2 = some (.inl (M 58 2)) := rfl
theorem pi_58_2 : putI (SH L) M 58 5 2 false x = some (setC M 58 2 x) := rfl
theorem gf_58_3 : getf (SH L) M 58 5 3 = some (.inl (M 58 3)) := rfl
theorem pi_58_3 : putI (SH L) M 58 5 3 false x = some (setC M 58 3 x) := rfl
theorem vl_58 : VL (SH L) 58 := ⟨by decide, rfl, ⟨by decide, [], rfl⟩⟩
theorem ar_59 : AR (SH L) 59 6 := ⟨by decide, [], rfl⟩
theorem io_60 : isObj (SH L) (some (.inr (.inr (some 60)))) 5 = true := rfl
theorem gf_60_0 : getf (SH L) M 60 5 0 = some (.inr (.inr (some 61))) := rfl
theorem gf_60_1 : getf (SH L) M 60 5 1 = some (.inl (M 60 1)) := rfl
theorem pi_60_1 : putI (SH L) M 60 5 1 false x = some (setC M 60 1 x) := rfl
theorem gf_60_2 : getf (SH L) M 60 5 2 = some (.inl (M 60 2)) := rfl
theorem pi_60_2 : putI (SH L) M 60 5 2 false x = some (setC M 60 2 x) := rfl
theorem gf_60_3 : getf (SH L) M 60 5 3 = some (.inl (M 60 3)) := rfl
theorem pi_60_3 : putI (SH L) M 60 5 3 false x = some (setC M 60 3 x) := rfl
theorem vl_60 : VL (SH L) 60 := ⟨by decide, rfl, ⟨by decide, [], rfl⟩⟩
theorem ar_61 : AR (SH L) 61 6 := ⟨by decide, [], rfl⟩
theorem ar_62 : AR (SH L) 62 3 := ⟨by decide, [], rfl⟩
theorem io_63 : isObj (SH L) (some (.inr (.inr (some 63)))) 7 = true := rfl
theorem gf_63_0 : getf (SH L) M 63 7 0 = some (.inl (M 63 0)) := rfl
theorem pi_63_0 : putI (SH L) M 63 7 0 false x = some (setC M 63 0 x) := rfl
theorem gf_63_1 : getf (SH L) M 63 7 1 = some (.inl (M 63 1)) := rfl
theorem pi_63_1 : putI (SH L) M 63 7 1 false x = some (setC M 63 1 x) := rfl
theorem gf_63_2 : getf (SH L) M 63 7 2 = some (.inl (M 63 2)) := rfl
theorem pi_63_2 : putI (SH L) M 63 7 2 false x = some (setC M 63 2 x) := rfl
theorem gf_63_3 : getf (SH L) M 63 7 3 = some (.inr (.inr (some 64))) := rfl
theorem gf_63_4 : getf (SH L) M 63 7 4 = some (.inl (M 63 4)) := rfl
theorem pi_63_4 : putI (SH L) M 63 7 4 false x = some (setC M 63 4 x) := rfl
theorem gf_63_5 : getf (SH L) M 63 7 5 = some (.inr (.inr (some 65))) := rfl
theorem gf_63_6 : getf (SH L) M 63 7 6 = some (.inl (M 63 6)) := rfl
theorem pi_63_6 : putI (SH L) M 63 7 6 false x = some (setC M 63 6 x) := rfl
theorem gf_63_7 : getf (SH L) M 63 7 7 = some (.inr (.inr (some 66))) := rfl
theorem gf_63_8 : getf (SH L) M 63 7 8 = some (.inl (M 63 8)) := rfl
theorem pi_63_8 : putI (SH L) M 63 7 8 false x = some (setC M 63 8 x) := rfl
theorem gf_63_9 : getf (SH L) M 63 7 9 = some (.inr (.inr (some 67))) := rfl
theorem gf_63_10 : getf (SH L) M 63 7 10 = some (.inr (.inr (some 68))) := rfl
theorem gf_63_11 : getf (SH L) M 63 7 11 = some (.inl (M 63 11)) := rfl
theorem pi_63_11 : putI (SH L) M 63 7 11 false x = some (setC M 63 11 x) := rfl
theorem gf_63_12 : getf (SH L) M 63 7 12 = some (.inl (M 63 12)) := rfl
theorem pi_63_12 : putI (SH L) M 63 7 12 false x = some (setC M 63 12 x) := rfl
theorem gf_63_13 : getf (SH L) M 63 7 13 = some (.inl (M 63 13)) := rfl
theorem pi_63_13 : putI (SH L) M 63 7 13 false x = some (setC M 63 13 x) := rfl
theorem gf_63_14 : getf (SH L) M 63 7 14 = some (.inl (M 63 14)) := rfl
theorem pi_63_14 : putI (SH L) M 63 7 14 false x = some (setC M 63 14 x) := rfl
theorem gf_63_15 : getf (SH L) M 63 7 15 = some (.inr (.inr (some 69))) := rfl
theorem gf_63_16 : getf (SH L) M 63 7 16 = some (.inr (.inr (some 70))) := rfl
theorem gf_63_17 : getf (SH L) M 63 7 17 = some (.inl (M 63 17)) := rfl
theorem pi_63_17 : putI (SH L) M 63 7 17 false x = some (setC M 63 17 x) := rfl
theorem gf_63_18 : getf (SH L) M 63 7 18 = some (.inr (.inr (some 71))) := rfl
theorem gf_63_19 : getf (SH L) M 63 7 19 = some (.inr (.inr (some 72))) := rfl
theorem ar_64 : AR (SH L) 64 6 := ⟨by decide, [], rfl⟩
theorem ar_65 : AR (SH L) 65 21 := ⟨by decide, [], rfl⟩
theorem ar_66 : AR (SH L) 66 12 := ⟨by decide, [], rfl⟩
theorem ar_67 : AR (SH L) 67 60 := ⟨by decide, [], rfl⟩
theorem ar_68 : AR (SH L) 68 6 := ⟨by decide, [], rfl⟩
theorem ar_69 : AR (SH L) 69 7 := ⟨by decide, [], rfl⟩
theorem ar_70 : AR (SH L) 70 7 := ⟨by decide, [], rfl⟩
theorem ar_71 : AR (SH L) 71 96 := ⟨by decide, [], rfl⟩
theorem zg_72 (h0 : 0 ≤ i) (h1 : i < 2) : zget (SH L) M 72 i = some (.inl (M 72 i.toNat)) := by
  show (if 0 ≤ i ∧ i < ((2 : Nat) : Int) ∧ (9 : Nat) = 9 then _ else _) = _
  rw [if_pos ⟨h0, by omega, rfl⟩]
theorem zp_72 (h0 : 0 ≤ i) (h1 : i < 2) : zput (SH L) M 72 i 1 = some (setC M 72 i.toNat 1) := by
  show (if 0 ≤ i ∧ i < ((2 : Nat) : Int) ∧ (9 : Nat) = 9 ∧ ((1 : Int) = 0 ∨ (1 : Int) = 1) then _ else _) = _
  rw [if_pos ⟨h0, by omega, rfl, Or.inr rfl⟩]
end SHF

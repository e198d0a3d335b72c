/-! entry of each method (printed by wip/whole/gen/p28.py) -/
section EN
variable {X : Nat × Nat × (Nat → Int32)} {d : Nat} {M : mm_M} {Q : mm_Out → mm_M → Prop}
theorem e_0 {v0 v1 v2 v3 : Value} : WPC X d 0 [v0, v1, v2, v3] M Q = WP X d 0 0 [some v0, some v1, some v2, some v3] [] M Q := rfl
theorem e_1 {v0 v1 v2 v3 : Value} : WPC X d 1 [v0, v1, v2, v3] M Q = WP X d 1 0 [some v0, some v1, some v2, some v3] [] M Q := rfl
theorem e_2 {v0 v1 v2 : Value} : WPC X d 2 [v0, v1, v2] M Q = WP X d 2 0 [some v0, some v1, some v2] [] M Q := rfl
theorem e_3 {v0 v1 : Value} : WPC X d 3 [v0, v1] M Q = WP X d 3 0 [some v0, some v1] [] M Q := rfl
theorem e_4 {v0 v1 : Value} : WPC X d 4 [v0, v1] M Q = WP X d 4 0 [some v0, some v1, none, none] [] M Q := rfl
theorem e_5 {v0 v1 v2 : Value} : WPC X d 5 [v0, v1, v2] M Q = WP X d 5 0 [some v0, some v1, some v2, none] [] M Q := rfl
theorem e_6 {v0 v1 : Value} : WPC X d 6 [v0, v1] M Q = WP X d 6 0 [some v0, some v1, none, none] [] M Q := rfl
theorem e_7 {v0 v1 : Value} : WPC X d 7 [v0, v1] M Q = WP X d 7 0 [some v0, some v1, none] [] M Q := rfl
theorem e_8 {v0 v1 v2 : Value} : WPC X d 8 [v0, v1, v2] M Q = WP X d 8 0 [some v0, some v1, some v2] [] M Q := rfl
theorem e_9 {v0 : Value} : WPC X d 9 [v0] M Q = WP X d 9 0 [some v0] [] M Q := rfl
theorem e_10 {v0 v1 v2 v3 : Value} : WPC X d 10 [v0, v1, v2, v3] M Q = WP X d 10 0 [some v0, some v1, some v2, some v3, none] [] M Q := rfl
theorem e_11 {v0 v1 v2 v3 : Value} : WPC X d 11 [v0, v1, v2, v3] M Q = WP X d 11 0 [some v0, some v1, some v2, some v3, none, none] [] M Q := rfl
theorem e_12 {v0 v1 : Value} : WPC X d 12 [v0, v1] M Q = WP X d 12 0 [some v0, some v1] [] M Q := rfl
theorem e_13 {v0 v1 : Value} : WPC X d 13 [v0, v1] M Q = WP X d 13 0 [some v0, some v1, none, none, none] [] M Q := rfl
theorem e_14 {v0 : Value} : WPC X d 14 [v0] M Q = WP X d 14 0 [some v0] [] M Q := rfl
theorem e_15 {v0 v1 v2 : Value} : WPC X d 15 [v0, v1, v2] M Q = WP X d 15 0 [some v0, some v1, some v2, none] [] M Q := rfl
theorem e_16 {v0 : Value} : WPC X d 16 [v0] M Q = WP X d 16 0 [some v0] [] M Q := rfl
theorem e_17 {v0 : Value} : WPC X d 17 [v0] M Q = WP X d 17 0 [some v0] [] M Q := rfl
theorem e_18 {v0 v1 v2 : Value} : WPC X d 18 [v0, v1, v2] M Q = WP X d 18 0 [some v0, some v1, some v2] [] M Q := rfl
theorem e_19 {v0 : Value} : WPC X d 19 [v0] M Q = WP X d 19 0 [some v0] [] M Q := rfl
theorem e_20 {v0 v1 v2 : Value} : WPC X d 20 [v0, v1, v2] M Q = WP X d 20 0 [some v0, some v1, some v2] [] M Q := rfl
theorem e_21 {v0 v1 v2 v3 : Value} : WPC X d 21 [v0, v1, v2, v3] M Q = WP X d 21 0 [some v0, some v1, some v2, some v3, none, none, none] [] M Q := rfl
theorem e_22 {v0 v1 : Value} : WPC X d 22 [v0, v1] M Q = WP X d 22 0 [some v0, some v1, none] [] M Q := rfl
theorem e_23 {v0 : Value} : WPC X d 23 [v0] M Q = WP X d 23 0 [some v0] [] M Q := rfl
theorem e_24 {v0 : Value} : WPC X d 24 [v0] M Q = WP X d 24 0 [some v0] [] M Q := rfl
theorem e_25 {v0 : Value} : WPC X d 25 [v0] M Q = WP X d 25 0 [some v0, none] [] M Q := rfl
theorem e_26 {v0 : Value} : WPC X d 26 [v0] M Q = WP X d 26 0 [some v0, none] [] M Q := rfl
theorem e_27 {v0 v1 : Value} : WPC X d 27 [v0, v1] M Q = WP X d 27 0 [some v0, some v1] [] M Q := rfl
theorem e_28 {v0 v1 : Value} : WPC X d 28 [v0, v1] M Q = WP X d 28 0 [some v0, some v1, none, none] [] M Q := rfl
theorem e_29 {v0 v1 v2 : Value} : WPC X d 29 [v0, v1, v2] M Q = WP X d 29 0 [some v0, some v1, some v2, none] [] M Q := rfl
theorem e_30 {v0 v1 : Value} : WPC X d 30 [v0, v1] M Q = WP X d 30 0 [some v0, some v1, none, none, none, none, none, none, none] [] M Q := rfl
theorem e_31 {v0 v1 v2 : Value} : WPC X d 31 [v0, v1, v2] M Q = WP X d 31 0 [some v0, some v1, some v2, none] [] M Q := rfl
theorem e_32 {v0 v1 v2 : Value} : WPC X d 32 [v0, v1, v2] M Q = WP X d 32 0 [some v0, some v1, some v2] [] M Q := rfl
theorem e_33 {v0 v1 : Value} : WPC X d 33 [v0, v1] M Q = WP X d 33 0 [some v0, some v1, none, none, none, none] [] M Q := rfl
theorem e_34 {v0 v1 v2 : Value} : WPC X d 34 [v0, v1, v2] M Q = WP X d 34 0 [some v0, some v1, some v2, none] [] M Q := rfl
theorem e_35 {v0 v1 : Value} : WPC X d 35 [v0, v1] M Q = WP X d 35 0 [some v0, some v1, none] [] M Q := rfl
theorem e_36 {v0 : Value} : WPC X d 36 [v0] M Q = WP X d 36 0 [some v0] [] M Q := rfl
theorem e_37 {v0 v1 v2 v3 v4 : Value} : WPC X d 37 [v0, v1, v2, v3, v4] M Q = WP X d 37 0 [some v0, some v1, some v2, some v3, some v4, none, none] [] M Q := rfl
theorem e_38 {v0 : Value} : WPC X d 38 [v0] M Q = WP X d 38 0 [some v0, none] [] M Q := rfl
theorem e_39 {v0 : Value} : WPC X d 39 [v0] M Q = WP X d 39 0 [some v0] [] M Q := rfl
theorem e_40 {v0 v1 v2 v3 : Value} : WPC X d 40 [v0, v1, v2, v3] M Q = WP X d 40 0 [some v0, some v1, some v2, some v3, none, none] [] M Q := rfl
theorem e_41 {v0 v1 v2 v3 : Value} : WPC X d 41 [v0, v1, v2, v3] M Q = WP X d 41 0 [some v0, some v1, some v2, some v3, none] [] M Q := rfl
theorem e_42 {v0 v1 v2 v3 v4 : Value} : WPC X d 42 [v0, v1, v2, v3, v4] M Q = WP X d 42 0 [some v0, some v1, some v2, some v3, some v4, none, none] [] M Q := rfl
theorem e_43 {v0 v1 v2 : Value} : WPC X d 43 [v0, v1, v2] M Q = WP X d 43 0 [some v0, some v1, some v2] [] M Q := rfl
theorem e_44 {v0 v1 : Value} : WPC X d 44 [v0, v1] M Q = WP X d 44 0 [some v0, some v1, none] [] M Q := rfl
theorem e_45 {v0 v1 v2 : Value} : WPC X d 45 [v0, v1, v2] M Q = WP X d 45 0 [some v0, some v1, some v2, none, none] [] M Q := rfl
theorem e_46 {v0 v1 v2 : Value} : WPC X d 46 [v0, v1, v2] M Q = WP X d 46 0 [some v0, some v1, some v2, none, none] [] M Q := rfl
theorem e_47 {v0 : Value} : WPC X d 47 [v0] M Q = WP X d 47 0 [some v0] [] M Q := rfl
theorem e_48 {v0 v1 v2 : Value} : WPC X d 48 [v0, v1, v2] M Q = WP X d 48 0 [some v0, some v1, some v2, none] [] M Q := rfl
theorem e_49 {v0 : Value} : WPC X d 49 [v0] M Q = WP X d 49 0 [some v0, none, none] [] M Q := rfl
theorem e_50 {v0 : Value} : WPC X d 50 [v0] M Q = WP X d 50 0 [some v0] [] M Q := rfl
theorem e_51 {v0 : Value} : WPC X d 51 [v0] M Q = WP X d 51 0 [some v0] [] M Q := rfl
theorem e_52 {v0 v1 v2 : Value} : WPC X d 52 [v0, v1, v2] M Q = WP X d 52 0 [some v0, some v1, some v2] [] M Q := rfl
theorem e_53 {v0 v1 v2 v3 : Value} : WPC X d 53 [v0, v1, v2, v3] M Q = WP X d 53 0 [some v0, some v1, some v2, some v3, none] [] M Q := rfl
theorem e_54 {v0 v1 v2 v3 : Value} : WPC X d 54 [v0, v1, v2, v3] M Q = WP X d 54 0 [some v0, some v1, some v2, some v3, none] [] M Q := rfl
theorem e_55 {v0 v1 v2 : Value} : WPC X d 55 [v0, v1, v2] M Q = WP X d 55 0 [some v0, some v1, some v2] [] M Q := rfl
theorem e_56 {v0 v1 v2 : Value} : WPC X d 56 [v0, v1, v2] M Q = WP X d 56 0 [some v0, some v1, some v2, none, none] [] M Q := rfl
theorem e_57 {v0 : Value} : WPC X d 57 [v0] M Q = WP X d 57 0 [some v0, none] [] M Q := rfl
theorem e_58 {v0 v1 : Value} : WPC X d 58 [v0, v1] M Q = WP X d 58 0 [some v0, some v1] [] M Q := rfl
theorem e_59 {v0 v1 v2 : Value} : WPC X d 59 [v0, v1, v2] M Q = WP X d 59 0 [some v0, some v1, some v2, none, none] [] M Q := rfl
theorem e_60 {v0 v1 : Value} : WPC X d 60 [v0, v1] M Q = WP X d 60 0 [some v0, some v1, none, none, none, none, none] [] M Q := rfl
theorem e_61 {v0 v1 v2 : Value} : WPC X d 61 [v0, v1, v2] M Q = WP X d 61 0 [some v0, some v1, some v2, none, none, none, none] [] M Q := rfl
theorem e_62 {v0 v1 v2 : Value} : WPC X d 62 [v0, v1, v2] M Q = WP X d 62 0 [some v0, some v1, some v2, none] [] M Q := rfl
theorem e_63 {v0 : Value} : WPC X d 63 [v0] M Q = WP X d 63 0 [some v0, none] [] M Q := rfl
theorem e_64 {v0 : Value} : WPC X d 64 [v0] M Q = WP X d 64 0 [some v0] [] M Q := rfl
theorem e_65 {v0 v1 v2 : Value} : WPC X d 65 [v0, v1, v2] M Q = WP X d 65 0 [some v0, some v1, some v2] [] M Q := rfl
theorem e_66 {v0 v1 v2 : Value} : WPC X d 66 [v0, v1, v2] M Q = WP X d 66 0 [some v0, some v1, some v2] [] M Q := rfl
theorem e_67 {v0 v1 : Value} : WPC X d 67 [v0, v1] M Q = WP X d 67 0 [some v0, some v1] [] M Q := rfl
theorem e_68 {v0 v1 v2 v3 v4 v5 : Value} : WPC X d 68 [v0, v1, v2, v3, v4, v5] M Q = WP X d 68 0 [some v0, some v1, some v2, some v3, some v4, some v5, none, none] [] M Q := rfl
theorem e_69 {v0 v1 v2 v3 : Value} : WPC X d 69 [v0, v1, v2, v3] M Q = WP X d 69 0 [some v0, some v1, some v2, some v3, none, none, none, none, none] [] M Q := rfl
theorem e_70 {v0 v1 : Value} : WPC X d 70 [v0, v1] M Q = WP X d 70 0 [some v0, some v1] [] M Q := rfl
theorem e_71 {v0 v1 : Value} : WPC X d 71 [v0, v1] M Q = WP X d 71 0 [some v0, some v1, none] [] M Q := rfl
theorem e_72 {v0 v1 : Value} : WPC X d 72 [v0, v1] M Q = WP X d 72 0 [some v0, some v1, none, none] [] M Q := rfl
theorem e_73 {v0 v1 : Value} : WPC X d 73 [v0, v1] M Q = WP X d 73 0 [some v0, some v1] [] M Q := rfl
theorem e_74 {v0 v1 : Value} : WPC X d 74 [v0, v1] M Q = WP X d 74 0 [some v0, some v1, none] [] M Q := rfl
theorem e_75 {v0 v1 : Value} : WPC X d 75 [v0, v1] M Q = WP X d 75 0 [some v0, some v1, none] [] M Q := rfl
theorem e_76 {v0 v1 : Value} : WPC X d 76 [v0, v1] M Q = WP X d 76 0 [some v0, some v1] [] M Q := rfl
theorem e_77 {v0 v1 : Value} : WPC X d 77 [v0, v1] M Q = WP X d 77 0 [some v0, some v1, none, none] [] M Q := rfl
theorem e_78 {v0 v1 v2 : Value} : WPC X d 78 [v0, v1, v2] M Q = WP X d 78 0 [some v0, some v1, some v2, none] [] M Q := rfl
theorem e_79 {v0 v1 v2 : Value} : WPC X d 79 [v0, v1, v2] M Q = WP X d 79 0 [some v0, some v1, some v2] [] M Q := rfl
theorem e_80 {v0 v1 : Value} : WPC X d 80 [v0, v1] M Q = WP X d 80 0 [some v0, some v1, none, none, none, none, none] [] M Q := rfl
theorem e_81 {v0 v1 v2 : Value} : WPC X d 81 [v0, v1, v2] M Q = WP X d 81 0 [some v0, some v1, some v2, none] [] M Q := rfl
theorem e_82 {v0 v1 v2 : Value} : WPC X d 82 [v0, v1, v2] M Q = WP X d 82 0 [some v0, some v1, some v2, none] [] M Q := rfl
theorem e_83 {v0 v1 v2 v3 : Value} : WPC X d 83 [v0, v1, v2, v3] M Q = WP X d 83 0 [some v0, some v1, some v2, some v3] [] M Q := rfl
theorem e_84 {v0 v1 v2 : Value} : WPC X d 84 [v0, v1, v2] M Q = WP X d 84 0 [some v0, some v1, some v2, none, none] [] M Q := rfl
theorem e_85 {v0 v1 v2 : Value} : WPC X d 85 [v0, v1, v2] M Q = WP X d 85 0 [some v0, some v1, some v2] [] M Q := rfl
theorem e_86 {v0 v1 v2 v3 v4 : Value} : WPC X d 86 [v0, v1, v2, v3, v4] M Q = WP X d 86 0 [some v0, some v1, some v2, some v3, some v4, none] [] M Q := rfl
theorem e_87 {v0 v1 : Value} : WPC X d 87 [v0, v1] M Q = WP X d 87 0 [some v0, some v1] [] M Q := rfl
theorem e_88 {v0 v1 v2 v3 v4 : Value} : WPC X d 88 [v0, v1, v2, v3, v4] M Q = WP X d 88 0 [some v0, some v1, some v2, some v3, some v4, none] [] M Q := rfl
theorem e_89 {v0 v1 v2 v3 : Value} : WPC X d 89 [v0, v1, v2, v3] M Q = WP X d 89 0 [some v0, some v1, some v2, some v3] [] M Q := rfl
theorem e_90 {v0 v1 v2 v3 : Value} : WPC X d 90 [v0, v1, v2, v3] M Q = WP X d 90 0 [some v0, some v1, some v2, some v3, none] [] M Q := rfl
theorem e_91 {v0 v1 v2 v3 v4 : Value} : WPC X d 91 [v0, v1, v2, v3, v4] M Q = WP X d 91 0 [some v0, some v1, some v2, some v3, some v4, none, none] [] M Q := rfl
theorem e_92 {v0 v1 v2 : Value} : WPC X d 92 [v0, v1, v2] M Q = WP X d 92 0 [some v0, some v1, some v2] [] M Q := rfl
theorem e_93 {v0 v1 : Value} : WPC X d 93 [v0, v1] M Q = WP X d 93 0 [some v0, some v1, none] [] M Q := rfl
theorem e_94 {v0 v1 v2 : Value} : WPC X d 94 [v0, v1, v2] M Q = WP X d 94 0 [some v0, some v1, some v2, none] [] M Q := rfl
theorem e_95 {v0 v1 v2 : Value} : WPC X d 95 [v0, v1, v2] M Q = WP X d 95 0 [some v0, some v1, some v2, none, none] [] M Q := rfl
theorem e_96 {v0 v1 v2 : Value} : WPC X d 96 [v0, v1, v2] M Q = WP X d 96 0 [some v0, some v1, some v2, none] [] M Q := rfl
theorem e_97 {v0 v1 v2 : Value} : WPC X d 97 [v0, v1, v2] M Q = WP X d 97 0 [some v0, some v1, some v2, none] [] M Q := rfl
theorem e_98 {v0 v1 v2 v3 : Value} : WPC X d 98 [v0, v1, v2, v3] M Q = WP X d 98 0 [some v0, some v1, some v2, some v3, none] [] M Q := rfl
theorem e_99 {v0 v1 : Value} : WPC X d 99 [v0, v1] M Q = WP X d 99 0 [some v0, some v1, none, none, none] [] M Q := rfl
theorem e_100 {v0 v1 v2 v3 : Value} : WPC X d 100 [v0, v1, v2, v3] M Q = WP X d 100 0 [some v0, some v1, some v2, some v3, none, none] [] M Q := rfl
theorem e_101 {v0 v1 v2 v3 : Value} : WPC X d 101 [v0, v1, v2, v3] M Q = WP X d 101 0 [some v0, some v1, some v2, some v3, none] [] M Q := rfl
theorem e_102 {v0 v1 : Value} : WPC X d 102 [v0, v1] M Q = WP X d 102 0 [some v0, some v1, none, none, none, none] [] M Q := rfl
theorem e_103 {v0 v1 v2 : Value} : WPC X d 103 [v0, v1, v2] M Q = WP X d 103 0 [some v0, some v1, some v2, none] [] M Q := rfl
theorem e_104 {v0 v1 v2 v3 : Value} : WPC X d 104 [v0, v1, v2, v3] M Q = WP X d 104 0 [some v0, some v1, some v2, some v3, none] [] M Q := rfl
theorem e_105 {v0 v1 v2 v3 : Value} : WPC X d 105 [v0, v1, v2, v3] M Q = WP X d 105 0 [some v0, some v1, some v2, some v3, none] [] M Q := rfl
theorem e_106 {v0 v1 v2 : Value} : WPC X d 106 [v0, v1, v2] M Q = WP X d 106 0 [some v0, some v1, some v2, none] [] M Q := rfl
theorem e_107 {v0 v1 v2 : Value} : WPC X d 107 [v0, v1, v2] M Q = WP X d 107 0 [some v0, some v1, some v2, none, none, none] [] M Q := rfl
theorem e_108 {v0 v1 v2 : Value} : WPC X d 108 [v0, v1, v2] M Q = WP X d 108 0 [some v0, some v1, some v2, none] [] M Q := rfl
theorem e_109 {v0 v1 v2 : Value} : WPC X d 109 [v0, v1, v2] M Q = WP X d 109 0 [some v0, some v1, some v2, none, none] [] M Q := rfl
theorem e_110 {v0 v1 : Value} : WPC X d 110 [v0, v1] M Q = WP X d 110 0 [some v0, some v1, none, none, none, none] [] M Q := rfl
theorem e_111 {v0 v1 v2 : Value} : WPC X d 111 [v0, v1, v2] M Q = WP X d 111 0 [some v0, some v1, some v2, none, none, none, none] [] M Q := rfl
theorem e_112 {v0 v1 v2 : Value} : WPC X d 112 [v0, v1, v2] M Q = WP X d 112 0 [some v0, some v1, some v2, none] [] M Q := rfl
theorem e_113 {v0 v1 v2 v3 : Value} : WPC X d 113 [v0, v1, v2, v3] M Q = WP X d 113 0 [some v0, some v1, some v2, some v3, none] [] M Q := rfl
theorem e_114 {v0 v1 v2 v3 v4 : Value} : WPC X d 114 [v0, v1, v2, v3, v4] M Q = WP X d 114 0 [some v0, some v1, some v2, some v3, some v4, none] [] M Q := rfl
theorem e_115 {v0 v1 v2 v3 : Value} : WPC X d 115 [v0, v1, v2, v3] M Q = WP X d 115 0 [some v0, some v1, some v2, some v3, none] [] M Q := rfl
theorem e_116 {v0 v1 v2 v3 v4 v5 : Value} : WPC X d 116 [v0, v1, v2, v3, v4, v5] M Q = WP X d 116 0 [some v0, some v1, some v2, some v3, some v4, some v5, none] [] M Q := rfl
theorem e_117 {v0 v1 v2 v3 v4 : Value} : WPC X d 117 [v0, v1, v2, v3, v4] M Q = WP X d 117 0 [some v0, some v1, some v2, some v3, some v4, none] [] M Q := rfl
theorem e_118 {v0 v1 v2 v3 v4 : Value} : WPC X d 118 [v0, v1, v2, v3, v4] M Q = WP X d 118 0 [some v0, some v1, some v2, some v3, some v4, none] [] M Q := rfl
theorem e_119 {v0 v1 v2 v3 v4 v5 : Value} : WPC X d 119 [v0, v1, v2, v3, v4, v5] M Q = WP X d 119 0 [some v0, some v1, some v2, some v3, some v4, some v5, none] [] M Q := rfl
theorem e_120 {v0 v1 v2 v3 : Value} : WPC X d 120 [v0, v1, v2, v3] M Q = WP X d 120 0 [some v0, some v1, some v2, some v3, none] [] M Q := rfl
theorem e_121 {v0 v1 v2 : Value} : WPC X d 121 [v0, v1, v2] M Q = WP X d 121 0 [some v0, some v1, some v2, none] [] M Q := rfl
theorem e_122 {v0 v1 v2 v3 : Value} : WPC X d 122 [v0, v1, v2, v3] M Q = WP X d 122 0 [some v0, some v1, some v2, some v3, none] [] M Q := rfl
theorem e_123 {v0 v1 v2 v3 : Value} : WPC X d 123 [v0, v1, v2, v3] M Q = WP X d 123 0 [some v0, some v1, some v2, some v3, none] [] M Q := rfl
theorem e_124 {v0 v1 v2 v3 : Value} : WPC X d 124 [v0, v1, v2, v3] M Q = WP X d 124 0 [some v0, some v1, some v2, some v3, none] [] M Q := rfl
theorem e_125 {v0 v1 v2 v3 v4 : Value} : WPC X d 125 [v0, v1, v2, v3, v4] M Q = WP X d 125 0 [some v0, some v1, some v2, some v3, some v4, none] [] M Q := rfl
theorem e_126 {v0 v1 v2 v3 v4 : Value} : WPC X d 126 [v0, v1, v2, v3, v4] M Q = WP X d 126 0 [some v0, some v1, some v2, some v3, some v4, none] [] M Q := rfl
theorem e_127 {v0 v1 v2 v3 : Value} : WPC X d 127 [v0, v1, v2, v3] M Q = WP X d 127 0 [some v0, some v1, some v2, some v3, none] [] M Q := rfl
theorem e_128 {v0 v1 v2 v3 : Value} : WPC X d 128 [v0, v1, v2, v3] M Q = WP X d 128 0 [some v0, some v1, some v2, some v3, none] [] M Q := rfl
theorem e_129 {v0 v1 v2 : Value} : WPC X d 129 [v0, v1, v2] M Q = WP X d 129 0 [some v0, some v1, some v2, none] [] M Q := rfl
theorem e_130 {v0 v1 v2 v3 : Value} : WPC X d 130 [v0, v1, v2, v3] M Q = WP X d 130 0 [some v0, some v1, some v2, some v3, none] [] M Q := rfl
theorem e_131 {v0 v1 v2 v3 : Value} : WPC X d 131 [v0, v1, v2, v3] M Q = WP X d 131 0 [some v0, some v1, some v2, some v3, none] [] M Q := rfl
end EN

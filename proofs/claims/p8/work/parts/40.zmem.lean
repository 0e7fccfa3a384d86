theorem zio_0 : zio 0 11 = true := rfl
theorem zar_1 : zar 1 1 = 800 := rfl
theorem zia_1 : zia 1 = true := rfl
theorem zit_1 : zit 1 1 = true := rfl
theorem zln_1 : zln 1 = 800 := rfl
theorem zio_2 : zio 2 4 = true := rfl
theorem zio_3 : zio 3 6 = true := rfl
theorem zar_4 : zar 4 0 = 3 := rfl
theorem zia_4 : zia 4 = true := rfl
theorem zit_4 : zit 4 0 = true := rfl
theorem zln_4 : zln 4 = 3 := rfl
theorem zio_5 : zio 5 6 = true := rfl
theorem zar_6 : zar 6 0 = 6 := rfl
theorem zia_6 : zia 6 = true := rfl
theorem zit_6 : zit 6 0 = true := rfl
theorem zln_6 : zln 6 = 6 := rfl
theorem zio_7 : zio 7 6 = true := rfl
theorem zar_8 : zar 8 0 = 4 := rfl
theorem zia_8 : zia 8 = true := rfl
theorem zit_8 : zit 8 0 = true := rfl
theorem zln_8 : zln 8 = 4 := rfl
theorem zio_9 : zio 9 6 = true := rfl
theorem zar_10 : zar 10 0 = 3 := rfl
theorem zia_10 : zia 10 = true := rfl
theorem zit_10 : zit 10 0 = true := rfl
theorem zln_10 : zln 10 = 3 := rfl
theorem zar_11 : zar 11 0 = 3 := rfl
theorem zia_11 : zia 11 = true := rfl
theorem zit_11 : zit 11 0 = true := rfl
theorem zln_11 : zln 11 = 3 := rfl
theorem zar_12 : zar 12 0 = 3 := rfl
theorem zia_12 : zia 12 = true := rfl
theorem zit_12 : zit 12 0 = true := rfl
theorem zln_12 : zln 12 = 3 := rfl
theorem zar_13 : zar 13 0 = 6 := rfl
theorem zia_13 : zia 13 = true := rfl
theorem zit_13 : zit 13 0 = true := rfl
theorem zln_13 : zln 13 = 6 := rfl
theorem zar_14 : zar 14 0 = 6 := rfl
theorem zia_14 : zia 14 = true := rfl
theorem zit_14 : zit 14 0 = true := rfl
theorem zln_14 : zln 14 = 6 := rfl
theorem zar_15 : zar 15 0 = 6 := rfl
theorem zia_15 : zia 15 = true := rfl
theorem zit_15 : zit 15 0 = true := rfl
theorem zln_15 : zln 15 = 6 := rfl
theorem zar_16 : zar 16 0 = 6 := rfl
theorem zia_16 : zia 16 = true := rfl
theorem zit_16 : zit 16 0 = true := rfl
theorem zln_16 : zln 16 = 6 := rfl
theorem zar_17 : zar 17 0 = 6 := rfl
theorem zia_17 : zia 17 = true := rfl
theorem zit_17 : zit 17 0 = true := rfl
theorem zln_17 : zln 17 = 6 := rfl
theorem zar_18 : zar 18 0 = 4 := rfl
theorem zia_18 : zia 18 = true := rfl
theorem zit_18 : zit 18 0 = true := rfl
theorem zln_18 : zln 18 = 4 := rfl
theorem zar_19 : zar 19 0 = 12 := rfl
theorem zia_19 : zia 19 = true := rfl
theorem zit_19 : zit 19 0 = true := rfl
theorem zln_19 : zln 19 = 12 := rfl
theorem zar_20 : zar 20 0 = 96 := rfl
theorem zia_20 : zia 20 = true := rfl
theorem zit_20 : zit 20 0 = true := rfl
theorem zln_20 : zln 20 = 96 := rfl
theorem zar_21 : zar 21 0 = 3 := rfl
theorem zia_21 : zia 21 = true := rfl
theorem zit_21 : zit 21 0 = true := rfl
theorem zln_21 : zln 21 = 3 := rfl
theorem zio_22 : zio 22 2 = true := rfl
theorem zar_23 : zar 23 0 = 64 := rfl
theorem zia_23 : zia 23 = true := rfl
theorem zit_23 : zit 23 0 = true := rfl
theorem zln_23 : zln 23 = 64 := rfl
theorem zar_24 : zar 24 0 = 64 := rfl
theorem zia_24 : zia 24 = true := rfl
theorem zit_24 : zit 24 0 = true := rfl
theorem zln_24 : zln 24 = 64 := rfl
theorem zar_25 : zar 25 0 = 5 := rfl
theorem zia_25 : zia 25 = true := rfl
theorem zit_25 : zit 25 0 = true := rfl
theorem zln_25 : zln 25 = 5 := rfl
theorem zar_26 : zar 26 0 = 5 := rfl
theorem zia_26 : zia 26 = true := rfl
theorem zit_26 : zit 26 0 = true := rfl
theorem zln_26 : zln 26 = 5 := rfl
theorem zar_27 : zar 27 0 = 72 := rfl
theorem zia_27 : zia 27 = true := rfl
theorem zit_27 : zit 27 0 = true := rfl
theorem zln_27 : zln 27 = 72 := rfl
theorem zio_28 : zio 28 4 = true := rfl
theorem zio_29 : zio 29 6 = true := rfl
theorem zar_30 : zar 30 0 = 3 := rfl
theorem zia_30 : zia 30 = true := rfl
theorem zit_30 : zit 30 0 = true := rfl
theorem zln_30 : zln 30 = 3 := rfl
theorem zio_31 : zio 31 6 = true := rfl
theorem zar_32 : zar 32 0 = 6 := rfl
theorem zia_32 : zia 32 = true := rfl
theorem zit_32 : zit 32 0 = true := rfl
theorem zln_32 : zln 32 = 6 := rfl
theorem zio_33 : zio 33 6 = true := rfl
theorem zar_34 : zar 34 0 = 4 := rfl
theorem zia_34 : zia 34 = true := rfl
theorem zit_34 : zit 34 0 = true := rfl
theorem zln_34 : zln 34 = 4 := rfl
theorem zio_35 : zio 35 6 = true := rfl
theorem zar_36 : zar 36 0 = 3 := rfl
theorem zia_36 : zia 36 = true := rfl
theorem zit_36 : zit 36 0 = true := rfl
theorem zln_36 : zln 36 = 3 := rfl
theorem zar_37 : zar 37 0 = 3 := rfl
theorem zia_37 : zia 37 = true := rfl
theorem zit_37 : zit 37 0 = true := rfl
theorem zln_37 : zln 37 = 3 := rfl
theorem zar_38 : zar 38 0 = 3 := rfl
theorem zia_38 : zia 38 = true := rfl
theorem zit_38 : zit 38 0 = true := rfl
theorem zln_38 : zln 38 = 3 := rfl
theorem zar_39 : zar 39 0 = 6 := rfl
theorem zia_39 : zia 39 = true := rfl
theorem zit_39 : zit 39 0 = true := rfl
theorem zln_39 : zln 39 = 6 := rfl
theorem zar_40 : zar 40 0 = 6 := rfl
theorem zia_40 : zia 40 = true := rfl
theorem zit_40 : zit 40 0 = true := rfl
theorem zln_40 : zln 40 = 6 := rfl
theorem zar_41 : zar 41 0 = 6 := rfl
theorem zia_41 : zia 41 = true := rfl
theorem zit_41 : zit 41 0 = true := rfl
theorem zln_41 : zln 41 = 6 := rfl
theorem zar_42 : zar 42 0 = 6 := rfl
theorem zia_42 : zia 42 = true := rfl
theorem zit_42 : zit 42 0 = true := rfl
theorem zln_42 : zln 42 = 6 := rfl
theorem zar_43 : zar 43 0 = 6 := rfl
theorem zia_43 : zia 43 = true := rfl
theorem zit_43 : zit 43 0 = true := rfl
theorem zln_43 : zln 43 = 6 := rfl
theorem zar_44 : zar 44 0 = 4 := rfl
theorem zia_44 : zia 44 = true := rfl
theorem zit_44 : zit 44 0 = true := rfl
theorem zln_44 : zln 44 = 4 := rfl
theorem zar_45 : zar 45 0 = 12 := rfl
theorem zia_45 : zia 45 = true := rfl
theorem zit_45 : zit 45 0 = true := rfl
theorem zln_45 : zln 45 = 12 := rfl
theorem zar_46 : zar 46 0 = 96 := rfl
theorem zia_46 : zia 46 = true := rfl
theorem zit_46 : zit 46 0 = true := rfl
theorem zln_46 : zln 46 = 96 := rfl
theorem zar_47 : zar 47 0 = 3 := rfl
theorem zia_47 : zia 47 = true := rfl
theorem zit_47 : zit 47 0 = true := rfl
theorem zln_47 : zln 47 = 3 := rfl
theorem zio_48 : zio 48 2 = true := rfl
theorem zar_49 : zar 49 0 = 64 := rfl
theorem zia_49 : zia 49 = true := rfl
theorem zit_49 : zit 49 0 = true := rfl
theorem zln_49 : zln 49 = 64 := rfl
theorem zar_50 : zar 50 0 = 64 := rfl
theorem zia_50 : zia 50 = true := rfl
theorem zit_50 : zit 50 0 = true := rfl
theorem zln_50 : zln 50 = 64 := rfl
theorem zar_51 : zar 51 0 = 5 := rfl
theorem zia_51 : zia 51 = true := rfl
theorem zit_51 : zit 51 0 = true := rfl
theorem zln_51 : zln 51 = 5 := rfl
theorem zar_52 : zar 52 0 = 5 := rfl
theorem zia_52 : zia 52 = true := rfl
theorem zit_52 : zit 52 0 = true := rfl
theorem zln_52 : zln 52 = 5 := rfl
theorem zar_53 : zar 53 0 = 72 := rfl
theorem zia_53 : zia 53 = true := rfl
theorem zit_53 : zit 53 0 = true := rfl
theorem zln_53 : zln 53 = 72 := rfl
theorem zio_54 : zio 54 8 = true := rfl
theorem zio_55 : zio 55 9 = true := rfl
theorem zar_56 : zar 56 0 = 23 := rfl
theorem zia_56 : zia 56 = true := rfl
theorem zit_56 : zit 56 0 = true := rfl
theorem zln_56 : zln 56 = 23 := rfl
theorem zio_57 : zio 57 10 = true := rfl
theorem zar_58 : zar 58 0 = 3 := rfl
theorem zia_58 : zia 58 = true := rfl
theorem zit_58 : zit 58 0 = true := rfl
theorem zln_58 : zln 58 = 3 := rfl
theorem zar_59 : zar 59 0 = 6 := rfl
theorem zia_59 : zia 59 = true := rfl
theorem zit_59 : zit 59 0 = true := rfl
theorem zln_59 : zln 59 = 6 := rfl
theorem zar_60 : zar 60 0 = 3 := rfl
theorem zia_60 : zia 60 = true := rfl
theorem zit_60 : zit 60 0 = true := rfl
theorem zln_60 : zln 60 = 3 := rfl
theorem zar_61 : zar 61 0 = 12 := rfl
theorem zia_61 : zia 61 = true := rfl
theorem zit_61 : zit 61 0 = true := rfl
theorem zln_61 : zln 61 = 12 := rfl
theorem zar_62 : zar 62 0 = 12 := rfl
theorem zia_62 : zia 62 = true := rfl
theorem zit_62 : zit 62 0 = true := rfl
theorem zln_62 : zln 62 = 12 := rfl
theorem zar_63 : zar 63 0 = 12 := rfl
theorem zia_63 : zia 63 = true := rfl
theorem zit_63 : zit 63 0 = true := rfl
theorem zln_63 : zln 63 = 12 := rfl
theorem zio_64 : zio 64 10 = true := rfl
theorem zar_65 : zar 65 0 = 3 := rfl
theorem zia_65 : zia 65 = true := rfl
theorem zit_65 : zit 65 0 = true := rfl
theorem zln_65 : zln 65 = 3 := rfl
theorem zar_66 : zar 66 0 = 6 := rfl
theorem zia_66 : zia 66 = true := rfl
theorem zit_66 : zit 66 0 = true := rfl
theorem zln_66 : zln 66 = 6 := rfl
theorem zar_67 : zar 67 0 = 3 := rfl
theorem zia_67 : zia 67 = true := rfl
theorem zit_67 : zit 67 0 = true := rfl
theorem zln_67 : zln 67 = 3 := rfl
theorem zar_68 : zar 68 0 = 12 := rfl
theorem zia_68 : zia 68 = true := rfl
theorem zit_68 : zit 68 0 = true := rfl
theorem zln_68 : zln 68 = 12 := rfl
theorem zar_69 : zar 69 0 = 12 := rfl
theorem zia_69 : zia 69 = true := rfl
theorem zit_69 : zit 69 0 = true := rfl
theorem zln_69 : zln 69 = 12 := rfl
theorem zar_70 : zar 70 0 = 12 := rfl
theorem zia_70 : zia 70 = true := rfl
theorem zit_70 : zit 70 0 = true := rfl
theorem zln_70 : zln 70 = 12 := rfl
theorem zio_71 : zio 71 3 = true := rfl
theorem zar_72 : zar 72 0 = 24 := rfl
theorem zia_72 : zia 72 = true := rfl
theorem zit_72 : zit 72 0 = true := rfl
theorem zln_72 : zln 72 = 24 := rfl
theorem zio_73 : zio 73 5 = true := rfl
theorem zar_74 : zar 74 2 = 7 := rfl
theorem zia_74 : zia 74 = true := rfl
theorem zit_74 : zit 74 2 = true := rfl
theorem zln_74 : zln 74 = 7 := rfl
theorem zar_75 : zar 75 2 = 64 := rfl
theorem zia_75 : zia 75 = true := rfl
theorem zit_75 : zit 75 2 = true := rfl
theorem zln_75 : zln 75 = 64 := rfl
theorem zio_76 : zio 76 1 = true := rfl
theorem zar_77 : zar 77 0 = 72 := rfl
theorem zia_77 : zia 77 = true := rfl
theorem zit_77 : zit 77 0 = true := rfl
theorem zln_77 : zln 77 = 72 := rfl
theorem zar_78 : zar 78 0 = 72 := rfl
theorem zia_78 : zia 78 = true := rfl
theorem zit_78 : zit 78 0 = true := rfl
theorem zln_78 : zln 78 = 72 := rfl
theorem zar_79 : zar 79 0 = 25 := rfl
theorem zia_79 : zia 79 = true := rfl
theorem zit_79 : zit 79 0 = true := rfl
theorem zln_79 : zln 79 = 25 := rfl
theorem zar_80 : zar 80 4 = 5 := rfl
theorem zia_80 : zia 80 = true := rfl
theorem zit_80 : zit 80 4 = true := rfl
theorem zln_80 : zln 80 = 5 := rfl
theorem zar_81 : zar 81 0 = 97 := rfl
theorem zia_81 : zia 81 = true := rfl
theorem zit_81 : zit 81 0 = true := rfl
theorem zln_81 : zln 81 = 97 := rfl
theorem zar_82 : zar 82 0 = 97 := rfl
theorem zia_82 : zia 82 = true := rfl
theorem zit_82 : zit 82 0 = true := rfl
theorem zln_82 : zln 82 = 97 := rfl
theorem zar_83 : zar 83 0 = 97 := rfl
theorem zia_83 : zia 83 = true := rfl
theorem zit_83 : zit 83 0 = true := rfl
theorem zln_83 : zln 83 = 97 := rfl
theorem zar_84 : zar 84 0 = 97 := rfl
theorem zia_84 : zia 84 = true := rfl
theorem zit_84 : zit 84 0 = true := rfl
theorem zln_84 : zln 84 = 97 := rfl
theorem zar_85 : zar 85 0 = 97 := rfl
theorem zia_85 : zia 85 = true := rfl
theorem zit_85 : zit 85 0 = true := rfl
theorem zln_85 : zln 85 = 97 := rfl
theorem zar_86 : zar 86 0 = 12 := rfl
theorem zia_86 : zia 86 = true := rfl
theorem zit_86 : zit 86 0 = true := rfl
theorem zln_86 : zln 86 = 12 := rfl
theorem zio_87 : zio 87 7 = true := rfl
theorem zar_88 : zar 88 0 = 4 := rfl
theorem zia_88 : zia 88 = true := rfl
theorem zit_88 : zit 88 0 = true := rfl
theorem zln_88 : zln 88 = 4 := rfl
theorem zar_89 : zar 89 0 = 4 := rfl
theorem zia_89 : zia 89 = true := rfl
theorem zit_89 : zit 89 0 = true := rfl
theorem zln_89 : zln 89 = 4 := rfl
theorem zar_90 : zar 90 0 = 3 := rfl
theorem zia_90 : zia 90 = true := rfl
theorem zit_90 : zit 90 0 = true := rfl
theorem zln_90 : zln 90 = 3 := rfl
theorem zio_91 : zio 91 0 = true := rfl
theorem zar_92 : zar 92 0 = 6 := rfl
theorem zia_92 : zia 92 = true := rfl
theorem zit_92 : zit 92 0 = true := rfl
theorem zln_92 : zln 92 = 6 := rfl
theorem zar_93 : zar 93 0 = 4 := rfl
theorem zia_93 : zia 93 = true := rfl
theorem zit_93 : zit 93 0 = true := rfl
theorem zln_93 : zln 93 = 4 := rfl
theorem zar_94 : zar 94 0 = 4 := rfl
theorem zia_94 : zia 94 = true := rfl
theorem zit_94 : zit 94 0 = true := rfl
theorem zln_94 : zln 94 = 4 := rfl
theorem zio_95 : zio 95 12 = true := rfl
theorem zar_96 : zar 96 0 = 800 := rfl
theorem zia_96 : zia 96 = true := rfl
theorem zit_96 : zit 96 0 = true := rfl
theorem zln_96 : zln 96 = 800 := rfl
theorem zar_97 : zar 97 0 = 14 := rfl
theorem zia_97 : zia 97 = true := rfl
theorem zit_97 : zit 97 0 = true := rfl
theorem zln_97 : zln 97 = 14 := rfl
theorem zar_98 : zar 98 0 = 6 := rfl
theorem zia_98 : zia 98 = true := rfl
theorem zit_98 : zit 98 0 = true := rfl
theorem zln_98 : zln 98 = 6 := rfl
theorem zar_99 : zar 99 0 = 6 := rfl
theorem zia_99 : zia 99 = true := rfl
theorem zit_99 : zit 99 0 = true := rfl
theorem zln_99 : zln 99 = 6 := rfl
theorem zar_100 : zar 100 0 = 6 := rfl
theorem zia_100 : zia 100 = true := rfl
theorem zit_100 : zit 100 0 = true := rfl
theorem zln_100 : zln 100 = 6 := rfl
theorem zar_101 : zar 101 0 = 12 := rfl
theorem zia_101 : zia 101 = true := rfl
theorem zit_101 : zit 101 0 = true := rfl
theorem zln_101 : zln 101 = 12 := rfl
theorem zar_102 : zar 102 0 = 12 := rfl
theorem zia_102 : zia 102 = true := rfl
theorem zit_102 : zit 102 0 = true := rfl
theorem zln_102 : zln 102 = 12 := rfl
theorem zar_103 : zar 103 0 = 12 := rfl
theorem zia_103 : zia 103 = true := rfl
theorem zit_103 : zit 103 0 = true := rfl
theorem zln_103 : zln 103 = 12 := rfl
theorem zar_104 : zar 104 3 = 12 := rfl
theorem zia_104 : zia 104 = true := rfl
theorem zit_104 : zit 104 3 = true := rfl
theorem zln_104 : zln 104 = 12 := rfl
theorem zar_105 : zar 105 0 = 12 := rfl
theorem zia_105 : zia 105 = true := rfl
theorem zit_105 : zit 105 0 = true := rfl
theorem zln_105 : zln 105 = 12 := rfl
theorem zar_106 : zar 106 0 = 12 := rfl
theorem zia_106 : zia 106 = true := rfl
theorem zit_106 : zit 106 0 = true := rfl
theorem zln_106 : zln 106 = 12 := rfl
theorem zar_107 : zar 107 0 = 12 := rfl
theorem zia_107 : zia 107 = true := rfl
theorem zit_107 : zit 107 0 = true := rfl
theorem zln_107 : zln 107 = 12 := rfl
theorem zar_108 : zar 108 0 = 8 := rfl
theorem zia_108 : zia 108 = true := rfl
theorem zit_108 : zit 108 0 = true := rfl
theorem zln_108 : zln 108 = 8 := rfl
theorem zar_109 : zar 109 0 = 8 := rfl
theorem zia_109 : zia 109 = true := rfl
theorem zit_109 : zit 109 0 = true := rfl
theorem zln_109 : zln 109 = 8 := rfl
theorem zar_110 : zar 110 0 = 24 := rfl
theorem zia_110 : zia 110 = true := rfl
theorem zit_110 : zit 110 0 = true := rfl
theorem zln_110 : zln 110 = 24 := rfl
theorem zar_111 : zar 111 0 = 192 := rfl
theorem zia_111 : zia 111 = true := rfl
theorem zit_111 : zit 111 0 = true := rfl
theorem zln_111 : zln 111 = 192 := rfl
theorem zar_112 : zar 112 0 = 6 := rfl
theorem zia_112 : zia 112 = true := rfl
theorem zit_112 : zit 112 0 = true := rfl
theorem zln_112 : zln 112 = 6 := rfl
theorem zar_113 : zar 113 0 = 6 := rfl
theorem zia_113 : zia 113 = true := rfl
theorem zit_113 : zit 113 0 = true := rfl
theorem zln_113 : zln 113 = 6 := rfl
theorem zar_114 : zar 114 0 = 10 := rfl
theorem zia_114 : zia 114 = true := rfl
theorem zit_114 : zit 114 0 = true := rfl
theorem zln_114 : zln 114 = 10 := rfl
theorem zar_115 : zar 115 0 = 10 := rfl
theorem zia_115 : zia 115 = true := rfl
theorem zit_115 : zit 115 0 = true := rfl
theorem zln_115 : zln 115 = 10 := rfl
theorem zar_116 : zar 116 0 = 128 := rfl
theorem zia_116 : zia 116 = true := rfl
theorem zit_116 : zit 116 0 = true := rfl
theorem zln_116 : zln 116 = 128 := rfl
theorem zar_117 : zar 117 0 = 128 := rfl
theorem zia_117 : zia 117 = true := rfl
theorem zit_117 : zit 117 0 = true := rfl
theorem zln_117 : zln 117 = 128 := rfl
theorem zar_118 : zar 118 0 = 2 := rfl
theorem zia_118 : zia 118 = true := rfl
theorem zit_118 : zit 118 0 = true := rfl
theorem zln_118 : zln 118 = 2 := rfl
theorem zar_119 : zar 119 0 = 2 := rfl
theorem zia_119 : zia 119 = true := rfl
theorem zit_119 : zit 119 0 = true := rfl
theorem zln_119 : zln 119 = 2 := rfl
theorem zar_120 : zar 120 0 = 2 := rfl
theorem zia_120 : zia 120 = true := rfl
theorem zit_120 : zit 120 0 = true := rfl
theorem zln_120 : zln 120 = 2 := rfl
theorem zar_121 : zar 121 0 = 2 := rfl
theorem zia_121 : zia 121 = true := rfl
theorem zit_121 : zit 121 0 = true := rfl
theorem zln_121 : zln 121 = 2 := rfl
theorem zar_122 : zar 122 0 = 2 := rfl
theorem zia_122 : zia 122 = true := rfl
theorem zit_122 : zit 122 0 = true := rfl
theorem zln_122 : zln 122 = 2 := rfl
theorem zar_123 : zar 123 0 = 6 := rfl
theorem zia_123 : zia 123 = true := rfl
theorem zit_123 : zit 123 0 = true := rfl
theorem zln_123 : zln 123 = 6 := rfl
theorem zar_124 : zar 124 0 = 6 := rfl
theorem zia_124 : zia 124 = true := rfl
theorem zit_124 : zit 124 0 = true := rfl
theorem zln_124 : zln 124 = 6 := rfl
theorem zar_125 : zar 125 0 = 12 := rfl
theorem zia_125 : zia 125 = true := rfl
theorem zit_125 : zit 125 0 = true := rfl
theorem zln_125 : zln 125 = 12 := rfl
theorem zar_126 : zar 126 0 = 24 := rfl
theorem zia_126 : zia 126 = true := rfl
theorem zit_126 : zit 126 0 = true := rfl
theorem zln_126 : zln 126 = 24 := rfl
theorem zar_127 : zar 127 0 = 2 := rfl
theorem zia_127 : zia 127 = true := rfl
theorem zit_127 : zit 127 0 = true := rfl
theorem zln_127 : zln 127 = 2 := rfl
theorem zar_128 : zar 128 0 = 24 := rfl
theorem zia_128 : zia 128 = true := rfl
theorem zit_128 : zit 128 0 = true := rfl
theorem zln_128 : zln 128 = 24 := rfl
theorem zar_129 : zar 129 0 = 24 := rfl
theorem zia_129 : zia 129 = true := rfl
theorem zit_129 : zit 129 0 = true := rfl
theorem zln_129 : zln 129 = 24 := rfl
theorem zar_130 : zar 130 2 = 7 := rfl
theorem zia_130 : zia 130 = true := rfl
theorem zit_130 : zit 130 2 = true := rfl
theorem zln_130 : zln 130 = 7 := rfl
theorem zar_131 : zar 131 2 = 64 := rfl
theorem zia_131 : zia 131 = true := rfl
theorem zit_131 : zit 131 2 = true := rfl
theorem zln_131 : zln 131 = 64 := rfl
theorem zar_132 : zar 132 0 = 5000 := rfl
theorem zia_132 : zia 132 = true := rfl
theorem zit_132 : zit 132 0 = true := rfl
theorem zln_132 : zln 132 = 5000 := rfl
theorem zar_133 : zar 133 0 = 5000 := rfl
theorem zia_133 : zia 133 = true := rfl
theorem zit_133 : zit 133 0 = true := rfl
theorem zln_133 : zln 133 = 5000 := rfl
theorem zar_134 : zar 134 0 = 72 := rfl
theorem zia_134 : zia 134 = true := rfl
theorem zit_134 : zit 134 0 = true := rfl
theorem zln_134 : zln 134 = 72 := rfl
theorem zar_135 : zar 135 0 = 72 := rfl
theorem zia_135 : zia 135 = true := rfl
theorem zit_135 : zit 135 0 = true := rfl
theorem zln_135 : zln 135 = 72 := rfl
theorem zar_136 : zar 136 0 = 3 := rfl
theorem zia_136 : zia 136 = true := rfl
theorem zit_136 : zit 136 0 = true := rfl
theorem zln_136 : zln 136 = 3 := rfl
theorem zar_137 : zar 137 0 = 3 := rfl
theorem zia_137 : zia 137 = true := rfl
theorem zit_137 : zit 137 0 = true := rfl
theorem zln_137 : zln 137 = 3 := rfl
theorem zar_138 : zar 138 0 = 24 := rfl
theorem zia_138 : zia 138 = true := rfl
theorem zit_138 : zit 138 0 = true := rfl
theorem zln_138 : zln 138 = 24 := rfl
theorem zar_139 : zar 139 0 = 24 := rfl
theorem zia_139 : zia 139 = true := rfl
theorem zit_139 : zit 139 0 = true := rfl
theorem zln_139 : zln 139 = 24 := rfl
theorem zar_140 : zar 140 3 = 24 := rfl
theorem zia_140 : zia 140 = true := rfl
theorem zit_140 : zit 140 3 = true := rfl
theorem zln_140 : zln 140 = 24 := rfl
theorem zar_141 : zar 141 0 = 4 := rfl
theorem zia_141 : zia 141 = true := rfl
theorem zit_141 : zit 141 0 = true := rfl
theorem zln_141 : zln 141 = 4 := rfl
theorem zar_142 : zar 142 0 = 4 := rfl
theorem zia_142 : zia 142 = true := rfl
theorem zit_142 : zit 142 0 = true := rfl
theorem zln_142 : zln 142 = 4 := rfl
theorem zar_143 : zar 143 2 = 1 := rfl
theorem zia_143 : zia 143 = true := rfl
theorem zit_143 : zit 143 2 = true := rfl
theorem zln_143 : zln 143 = 1 := rfl
set_option maxRecDepth 100000 in
theorem ag_0_11 : agam 0 11 = (0, 800) := by decide +kernel
set_option maxRecDepth 100000 in
theorem ag_0_12 : agam 0 12 = (-2147483648, 2147483647) := by decide +kernel
set_option maxRecDepth 100000 in
theorem ag_0_13 : agam 0 13 = (-2147483648, 2147483647) := by decide +kernel
set_option maxRecDepth 100000 in
theorem ag_0_14 : agam 0 14 = (0, 1) := by decide +kernel
set_option maxRecDepth 100000 in
theorem ae_1 : aent 1 = ((-128, 127), []) := by decide +kernel
set_option maxRecDepth 100000 in
theorem ae_2 : aent 2 = ((-2147483648, 2147483647), []) := by decide +kernel
set_option maxRecDepth 100000 in
theorem ag_3_1 : agam 3 1 = (0, 3) := by decide +kernel
set_option maxRecDepth 100000 in
theorem ae_4 : aent 4 = ((-2147483648, 2147483647), []) := by decide +kernel
set_option maxRecDepth 100000 in
theorem ag_5_1 : agam 5 1 = (0, 6) := by decide +kernel
set_option maxRecDepth 100000 in
theorem ae_6 : aent 6 = ((-2147483648, 2147483647), []) := by decide +kernel
set_option maxRecDepth 100000 in
theorem ag_7_1 : agam 7 1 = (0, 4) := by decide +kernel
set_option maxRecDepth 100000 in
theorem ae_8 : aent 8 = ((-2147483648, 2147483647), []) := by decide +kernel
set_option maxRecDepth 100000 in
theorem ag_9_1 : agam 9 1 = (0, 3) := by decide +kernel
set_option maxRecDepth 100000 in
theorem ae_10 : aent 10 = ((-2147483648, 2147483647), []) := by decide +kernel
set_option maxRecDepth 100000 in
theorem ae_11 : aent 11 = ((-2147483648, 2147483647), []) := by decide +kernel
set_option maxRecDepth 100000 in
theorem ae_12 : aent 12 = ((-2147483648, 2147483647), []) := by decide +kernel
set_option maxRecDepth 100000 in
theorem ae_13 : aent 13 = ((-2147483648, 2147483647), []) := by decide +kernel
set_option maxRecDepth 100000 in
theorem ae_14 : aent 14 = ((-2147483648, 2147483647), []) := by decide +kernel
set_option maxRecDepth 100000 in
theorem ae_15 : aent 15 = ((-1, 2), []) := by decide +kernel
set_option maxRecDepth 100000 in
theorem ae_16 : aent 16 = ((-2147483648, 2147483647), []) := by decide +kernel
set_option maxRecDepth 100000 in
theorem ae_17 : aent 17 = ((-2147483648, 2147483647), []) := by decide +kernel
set_option maxRecDepth 100000 in
theorem ae_18 : aent 18 = ((0, 3), []) := by decide +kernel
set_option maxRecDepth 100000 in
theorem ae_19 : aent 19 = ((0, 8), []) := by decide +kernel
set_option maxRecDepth 100000 in
theorem ae_20 : aent 20 = ((-2147483648, 2147483647), []) := by decide +kernel
set_option maxRecDepth 100000 in
theorem ae_21 : aent 21 = ((-2147483648, 2147483647), []) := by decide +kernel
set_option maxRecDepth 100000 in
theorem ag_22_4 : agam 22 4 = (0, 64) := by decide +kernel
set_option maxRecDepth 100000 in
theorem ag_22_6 : agam 22 6 = (0, 72) := by decide +kernel
set_option maxRecDepth 100000 in
theorem ag_22_7 : agam 22 7 = (0, 8) := by decide +kernel
set_option maxRecDepth 100000 in
theorem ag_22_8 : agam 22 8 = (0, 64) := by decide +kernel
set_option maxRecDepth 100000 in
theorem ag_22_9 : agam 22 9 = (0, 1) := by decide +kernel
set_option maxRecDepth 100000 in
theorem ae_23 : aent 23 = ((-2147483648, 2147483647), []) := by decide +kernel
set_option maxRecDepth 100000 in
theorem ae_24 : aent 24 = ((-2147483648, 2147483647), []) := by decide +kernel
set_option maxRecDepth 100000 in
theorem ae_25 : aent 25 = ((0, 64), []) := by decide +kernel
set_option maxRecDepth 100000 in
theorem ae_26 : aent 26 = ((0, 64), []) := by decide +kernel
set_option maxRecDepth 100000 in
theorem ae_27 : aent 27 = ((-2147483648, 2147483647), []) := by decide +kernel
set_option maxRecDepth 100000 in
theorem ae_28 : aent 28 = ((-2147483648, 2147483647), []) := by decide +kernel
set_option maxRecDepth 100000 in
theorem ag_29_1 : agam 29 1 = (0, 3) := by decide +kernel
set_option maxRecDepth 100000 in
theorem ae_30 : aent 30 = ((-2147483648, 2147483647), []) := by decide +kernel
set_option maxRecDepth 100000 in
theorem ag_31_1 : agam 31 1 = (0, 6) := by decide +kernel
set_option maxRecDepth 100000 in
theorem ae_32 : aent 32 = ((-2147483648, 2147483647), []) := by decide +kernel
set_option maxRecDepth 100000 in
theorem ag_33_1 : agam 33 1 = (0, 4) := by decide +kernel
set_option maxRecDepth 100000 in
theorem ae_34 : aent 34 = ((-2147483648, 2147483647), []) := by decide +kernel
set_option maxRecDepth 100000 in
theorem ag_35_1 : agam 35 1 = (0, 3) := by decide +kernel
set_option maxRecDepth 100000 in
theorem ae_36 : aent 36 = ((-2147483648, 2147483647), []) := by decide +kernel
set_option maxRecDepth 100000 in
theorem ae_37 : aent 37 = ((-2147483648, 2147483647), []) := by decide +kernel
set_option maxRecDepth 100000 in
theorem ae_38 : aent 38 = ((-2147483648, 2147483647), []) := by decide +kernel
set_option maxRecDepth 100000 in
theorem ae_39 : aent 39 = ((-2147483648, 2147483647), []) := by decide +kernel
set_option maxRecDepth 100000 in
theorem ae_40 : aent 40 = ((-2147483648, 2147483647), []) := by decide +kernel
set_option maxRecDepth 100000 in
theorem ae_41 : aent 41 = ((-1, 2), []) := by decide +kernel
set_option maxRecDepth 100000 in
theorem ae_42 : aent 42 = ((-2147483648, 2147483647), []) := by decide +kernel
set_option maxRecDepth 100000 in
theorem ae_43 : aent 43 = ((-2147483648, 2147483647), []) := by decide +kernel
set_option maxRecDepth 100000 in
theorem ae_44 : aent 44 = ((0, 3), []) := by decide +kernel
set_option maxRecDepth 100000 in
theorem ae_45 : aent 45 = ((0, 8), []) := by decide +kernel
set_option maxRecDepth 100000 in
theorem ae_46 : aent 46 = ((-2147483648, 2147483647), []) := by decide +kernel
set_option maxRecDepth 100000 in
theorem ae_47 : aent 47 = ((-2147483648, 2147483647), []) := by decide +kernel
set_option maxRecDepth 100000 in
theorem ag_48_4 : agam 48 4 = (0, 64) := by decide +kernel
set_option maxRecDepth 100000 in
theorem ag_48_6 : agam 48 6 = (0, 72) := by decide +kernel
set_option maxRecDepth 100000 in
theorem ag_48_7 : agam 48 7 = (0, 8) := by decide +kernel
set_option maxRecDepth 100000 in
theorem ag_48_8 : agam 48 8 = (0, 64) := by decide +kernel
set_option maxRecDepth 100000 in
theorem ag_48_9 : agam 48 9 = (0, 1) := by decide +kernel
set_option maxRecDepth 100000 in
theorem ae_49 : aent 49 = ((-2147483648, 2147483647), []) := by decide +kernel
set_option maxRecDepth 100000 in
theorem ae_50 : aent 50 = ((-2147483648, 2147483647), []) := by decide +kernel
set_option maxRecDepth 100000 in
theorem ae_51 : aent 51 = ((0, 64), []) := by decide +kernel
set_option maxRecDepth 100000 in
theorem ae_52 : aent 52 = ((0, 64), []) := by decide +kernel
set_option maxRecDepth 100000 in
theorem ae_53 : aent 53 = ((-2147483648, 2147483647), []) := by decide +kernel
set_option maxRecDepth 100000 in
theorem ag_54_2 : agam 54 2 = (0, 1) := by decide +kernel
set_option maxRecDepth 100000 in
theorem ag_54_3 : agam 54 3 = (0, 1) := by decide +kernel
set_option maxRecDepth 100000 in
theorem ag_55_2 : agam 55 2 = (0, 800) := by decide +kernel
set_option maxRecDepth 100000 in
theorem ag_55_3 : agam 55 3 = (0, 801) := by decide +kernel
set_option maxRecDepth 100000 in
theorem ag_55_4 : agam 55 4 = (-2147483648, 2147483647) := by decide +kernel
set_option maxRecDepth 100000 in
theorem ag_55_5 : agam 55 5 = (-2147483648, 2147483647) := by decide +kernel
set_option maxRecDepth 100000 in
theorem ag_55_6 : agam 55 6 = (-2147483648, 2147483647) := by decide +kernel
set_option maxRecDepth 100000 in
theorem ag_55_7 : agam 55 7 = (-2147483648, 2147483647) := by decide +kernel
set_option maxRecDepth 100000 in
theorem ag_55_8 : agam 55 8 = (-2147483648, 2147483647) := by decide +kernel
set_option maxRecDepth 100000 in
theorem ae_56 : aent 56 = ((-2147483648, 2147483647), []) := by decide +kernel
set_option maxRecDepth 100000 in
theorem ag_57_6 : agam 57 6 = (0, 12) := by decide +kernel
set_option maxRecDepth 100000 in
theorem ag_57_7 : agam 57 7 = (-2147483648, 2147483647) := by decide +kernel
set_option maxRecDepth 100000 in
theorem ag_57_8 : agam 57 8 = (-2147483648, 2147483647) := by decide +kernel
set_option maxRecDepth 100000 in
theorem ag_57_9 : agam 57 9 = (-2147483648, 2147483647) := by decide +kernel
set_option maxRecDepth 100000 in
theorem ag_57_10 : agam 57 10 = (-2147483648, 2147483647) := by decide +kernel
set_option maxRecDepth 100000 in
theorem ag_57_11 : agam 57 11 = (-1, 24) := by decide +kernel
set_option maxRecDepth 100000 in
theorem ag_57_12 : agam 57 12 = (-2147483648, 2147483647) := by decide +kernel
set_option maxRecDepth 100000 in
theorem ae_58 : aent 58 = ((-2147483648, 2147483647), []) := by decide +kernel
set_option maxRecDepth 100000 in
theorem ae_59 : aent 59 = ((-2147483648, 2147483647), []) := by decide +kernel
set_option maxRecDepth 100000 in
theorem ae_60 : aent 60 = ((-2147483648, 2147483647), []) := by decide +kernel
set_option maxRecDepth 100000 in
theorem ae_61 : aent 61 = ((-1, 5), []) := by decide +kernel
set_option maxRecDepth 100000 in
theorem ae_62 : aent 62 = ((0, 11), []) := by decide +kernel
set_option maxRecDepth 100000 in
theorem ae_63 : aent 63 = ((-2147483648, 2147483647), []) := by decide +kernel
set_option maxRecDepth 100000 in
theorem ag_64_6 : agam 64 6 = (0, 12) := by decide +kernel
set_option maxRecDepth 100000 in
theorem ag_64_7 : agam 64 7 = (-2147483648, 2147483647) := by decide +kernel
set_option maxRecDepth 100000 in
theorem ag_64_8 : agam 64 8 = (-2147483648, 2147483647) := by decide +kernel
set_option maxRecDepth 100000 in
theorem ag_64_9 : agam 64 9 = (-2147483648, 2147483647) := by decide +kernel
set_option maxRecDepth 100000 in
theorem ag_64_10 : agam 64 10 = (-2147483648, 2147483647) := by decide +kernel
set_option maxRecDepth 100000 in
theorem ag_64_11 : agam 64 11 = (-1, 24) := by decide +kernel
set_option maxRecDepth 100000 in
theorem ag_64_12 : agam 64 12 = (-2147483648, 2147483647) := by decide +kernel
set_option maxRecDepth 100000 in
theorem ae_65 : aent 65 = ((-2147483648, 2147483647), []) := by decide +kernel
set_option maxRecDepth 100000 in
theorem ae_66 : aent 66 = ((-2147483648, 2147483647), []) := by decide +kernel
set_option maxRecDepth 100000 in
theorem ae_67 : aent 67 = ((-2147483648, 2147483647), []) := by decide +kernel
set_option maxRecDepth 100000 in
theorem ae_68 : aent 68 = ((-1, 5), []) := by decide +kernel
set_option maxRecDepth 100000 in
theorem ae_69 : aent 69 = ((0, 11), []) := by decide +kernel
set_option maxRecDepth 100000 in
theorem ae_70 : aent 70 = ((-2147483648, 2147483647), []) := by decide +kernel
set_option maxRecDepth 100000 in
theorem ag_71_1 : agam 71 1 = (0, 24) := by decide +kernel
set_option maxRecDepth 100000 in
theorem ae_72 : aent 72 = ((-2147483648, 2147483647), []) := by decide +kernel
set_option maxRecDepth 100000 in
theorem ag_73_4 : agam 73 4 = (0, 64) := by decide +kernel
set_option maxRecDepth 100000 in
theorem ag_73_5 : agam 73 5 = (0, 1) := by decide +kernel
set_option maxRecDepth 100000 in
theorem ae_74 : aent 74 = ((-2147483648, 2147483647), []) := by decide +kernel
set_option maxRecDepth 100000 in
theorem ae_75 : aent 75 = ((-2147483648, 2147483647), []) := by decide +kernel
set_option maxRecDepth 100000 in
theorem ag_76_8 : agam 76 8 = (0, 24) := by decide +kernel
set_option maxRecDepth 100000 in
theorem ag_76_9 : agam 76 9 = (-2147483648, 2147483647) := by decide +kernel
set_option maxRecDepth 100000 in
theorem ag_76_10 : agam 76 10 = (0, 1) := by decide +kernel
set_option maxRecDepth 100000 in
theorem ae_77 : aent 77 = ((0, 8), []) := by decide +kernel
set_option maxRecDepth 100000 in
theorem ae_78 : aent 78 = ((-2147483648, 2147483647), []) := by decide +kernel
set_option maxRecDepth 100000 in
theorem ae_79 : aent 79 = ((-2147483648, 2147483647), []) := by decide +kernel
set_option maxRecDepth 100000 in
theorem ae_80 : aent 80 = ((-2147483648, 2147483647), []) := by decide +kernel
set_option maxRecDepth 100000 in
theorem ae_81 : aent 81 = ((-2147483648, 2147483647), []) := by decide +kernel
set_option maxRecDepth 100000 in
theorem ae_82 : aent 82 = ((-2147483648, 2147483647), []) := by decide +kernel
set_option maxRecDepth 100000 in
theorem ae_83 : aent 83 = ((-2147483648, 2147483647), []) := by decide +kernel
set_option maxRecDepth 100000 in
theorem ae_84 : aent 84 = ((-2147483648, 2147483647), []) := by decide +kernel
set_option maxRecDepth 100000 in
theorem ae_85 : aent 85 = ((-2147483648, 2147483647), []) := by decide +kernel
set_option maxRecDepth 100000 in
theorem ae_86 : aent 86 = ((-2147483648, 2147483647), []) := by decide +kernel
set_option maxRecDepth 100000 in
theorem ae_87 : aent 87 = ((-2147483648, 2147483647), []) := by decide +kernel
set_option maxRecDepth 100000 in
theorem ae_88 : aent 88 = ((-1, 2), []) := by decide +kernel
set_option maxRecDepth 100000 in
theorem ae_89 : aent 89 = ((-2147483648, 2147483647), []) := by decide +kernel
set_option maxRecDepth 100000 in
theorem ae_90 : aent 90 = ((-2147483648, 2147483647), []) := by decide +kernel
set_option maxRecDepth 100000 in
theorem ag_91_6 : agam 91 6 = (0, 4) := by decide +kernel
set_option maxRecDepth 100000 in
theorem ag_91_7 : agam 91 7 = (-2147483648, 2147483647) := by decide +kernel
set_option maxRecDepth 100000 in
theorem ag_91_8 : agam 91 8 = (-2147483648, 2147483647) := by decide +kernel
set_option maxRecDepth 100000 in
theorem ag_91_9 : agam 91 9 = (-2147483648, 2147483647) := by decide +kernel
set_option maxRecDepth 100000 in
theorem ae_92 : aent 92 = ((-2147483648, 2147483647), []) := by decide +kernel
set_option maxRecDepth 100000 in
theorem ae_93 : aent 93 = ((-2147483648, 2147483647), []) := by decide +kernel
set_option maxRecDepth 100000 in
theorem ae_94 : aent 94 = ((-2147483648, 2147483647), []) := by decide +kernel
set_option maxRecDepth 100000 in
theorem ag_95_0 : agam 95 0 = (-2147483648, 2147483647) := by decide +kernel
set_option maxRecDepth 100000 in
theorem ag_95_2 : agam 95 2 = (0, 800) := by decide +kernel
set_option maxRecDepth 100000 in
theorem ag_95_24 : agam 95 24 = (-2147483648, 2147483647) := by decide +kernel
set_option maxRecDepth 100000 in
theorem ag_95_25 : agam 95 25 = (-2147483648, 2147483647) := by decide +kernel
set_option maxRecDepth 100000 in
theorem ag_95_26 : agam 95 26 = (0, 800) := by decide +kernel
set_option maxRecDepth 100000 in
theorem ag_95_27 : agam 95 27 = (0, 802) := by decide +kernel
set_option maxRecDepth 100000 in
theorem ag_95_28 : agam 95 28 = (0, 802) := by decide +kernel
set_option maxRecDepth 100000 in
theorem ag_95_29 : agam 95 29 = (-2147483648, 2147483647) := by decide +kernel
set_option maxRecDepth 100000 in
theorem ag_95_30 : agam 95 30 = (-2147483648, 2147483647) := by decide +kernel
set_option maxRecDepth 100000 in
theorem ag_95_31 : agam 95 31 = (-2147483648, 2147483647) := by decide +kernel
set_option maxRecDepth 100000 in
theorem ag_95_32 : agam 95 32 = (-2147483648, 2147483647) := by decide +kernel
set_option maxRecDepth 100000 in
theorem ag_95_33 : agam 95 33 = (-2147483648, 2147483647) := by decide +kernel
set_option maxRecDepth 100000 in
theorem ag_95_34 : agam 95 34 = (-2147483648, 2147483647) := by decide +kernel
set_option maxRecDepth 100000 in
theorem ag_95_35 : agam 95 35 = (0, 8) := by decide +kernel
set_option maxRecDepth 100000 in
theorem ag_95_36 : agam 95 36 = (0, 64) := by decide +kernel
set_option maxRecDepth 100000 in
theorem ag_95_49 : agam 95 49 = (0, 1) := by decide +kernel
set_option maxRecDepth 100000 in
theorem ag_95_52 : agam 95 52 = (0, 64) := by decide +kernel
set_option maxRecDepth 100000 in
theorem ag_95_59 : agam 95 59 = (-1, 2) := by decide +kernel
set_option maxRecDepth 100000 in
theorem ag_95_60 : agam 95 60 = (-2147483648, 2147483647) := by decide +kernel
set_option maxRecDepth 100000 in
theorem ag_95_61 : agam 95 61 = (0, 24) := by decide +kernel
set_option maxRecDepth 100000 in
theorem ag_95_62 : agam 95 62 = (-1, 24) := by decide +kernel
set_option maxRecDepth 100000 in
theorem ag_95_68 : agam 95 68 = (-2147483648, 2147483647) := by decide +kernel
set_option maxRecDepth 100000 in
theorem ae_96 : aent 96 = ((0, 255), []) := by decide +kernel
set_option maxRecDepth 100000 in
theorem ag_97_0 : agam 97 0 = (0, 3) := by decide +kernel
set_option maxRecDepth 100000 in
theorem ag_97_1 : agam 97 1 = (0, 6) := by decide +kernel
set_option maxRecDepth 100000 in
theorem ag_97_2 : agam 97 2 = (0, 4) := by decide +kernel
set_option maxRecDepth 100000 in
theorem ag_97_3 : agam 97 3 = (0, 3) := by decide +kernel
set_option maxRecDepth 100000 in
theorem ag_97_6 : agam 97 6 = (0, 64) := by decide +kernel
set_option maxRecDepth 100000 in
theorem ag_97_7 : agam 97 7 = (0, 3) := by decide +kernel
set_option maxRecDepth 100000 in
theorem ag_97_8 : agam 97 8 = (0, 6) := by decide +kernel
set_option maxRecDepth 100000 in
theorem ag_97_9 : agam 97 9 = (0, 4) := by decide +kernel
set_option maxRecDepth 100000 in
theorem ag_97_10 : agam 97 10 = (0, 3) := by decide +kernel
set_option maxRecDepth 100000 in
theorem ag_97_13 : agam 97 13 = (0, 64) := by decide +kernel
set_option maxRecDepth 100000 in
theorem ae_98 : aent 98 = ((-2147483648, 2147483647), []) := by decide +kernel
set_option maxRecDepth 100000 in
theorem ae_99 : aent 99 = ((-2147483648, 2147483647), []) := by decide +kernel
set_option maxRecDepth 100000 in
theorem ae_100 : aent 100 = ((-2147483648, 2147483647), []) := by decide +kernel
set_option maxRecDepth 100000 in
theorem ae_101 : aent 101 = ((-2147483648, 2147483647), []) := by decide +kernel
set_option maxRecDepth 100000 in
theorem ae_102 : aent 102 = ((-2147483648, 2147483647), []) := by decide +kernel
set_option maxRecDepth 100000 in
theorem ae_103 : aent 103 = ((-2147483648, 2147483647), []) := by decide +kernel
set_option maxRecDepth 100000 in
theorem ae_104 : aent 104 = ((0, 1), []) := by decide +kernel
set_option maxRecDepth 100000 in
theorem ae_105 : aent 105 = ((-1, 2), []) := by decide +kernel
set_option maxRecDepth 100000 in
theorem ae_106 : aent 106 = ((0, 99), []) := by decide +kernel
set_option maxRecDepth 100000 in
theorem ae_107 : aent 107 = ((-2147483648, 2147483647), []) := by decide +kernel
set_option maxRecDepth 100000 in
theorem ae_108 : aent 108 = ((-2147483648, 2147483647), []) := by decide +kernel
set_option maxRecDepth 100000 in
theorem ae_109 : aent 109 = ((0, 3), []) := by decide +kernel
set_option maxRecDepth 100000 in
theorem ae_110 : aent 110 = ((0, 8), []) := by decide +kernel
set_option maxRecDepth 100000 in
theorem ae_111 : aent 111 = ((-2147483648, 2147483647), []) := by decide +kernel
set_option maxRecDepth 100000 in
theorem ae_112 : aent 112 = ((-2147483648, 2147483647), []) := by decide +kernel
set_option maxRecDepth 100000 in
theorem ae_113 : aent 113 = ((-2147483648, 2147483647), []) := by decide +kernel
set_option maxRecDepth 100000 in
theorem ae_114 : aent 114 = ((0, 64), []) := by decide +kernel
set_option maxRecDepth 100000 in
theorem ae_115 : aent 115 = ((0, 64), []) := by decide +kernel
set_option maxRecDepth 100000 in
theorem ae_116 : aent 116 = ((-2147483648, 2147483647), []) := by decide +kernel
set_option maxRecDepth 100000 in
theorem ae_117 : aent 117 = ((-2147483648, 2147483647), []) := by decide +kernel
set_option maxRecDepth 100000 in
theorem ae_118 : aent 118 = ((-2147483648, 2147483647), []) := by decide +kernel
set_option maxRecDepth 100000 in
theorem ae_119 : aent 119 = ((-2147483648, 2147483647), []) := by decide +kernel
set_option maxRecDepth 100000 in
theorem ae_120 : aent 120 = ((-2147483648, 2147483647), []) := by decide +kernel
set_option maxRecDepth 100000 in
theorem ae_121 : aent 121 = ((-2147483648, 2147483647), []) := by decide +kernel
set_option maxRecDepth 100000 in
theorem ae_122 : aent 122 = ((-2147483648, 2147483647), []) := by decide +kernel
set_option maxRecDepth 100000 in
theorem ae_123 : aent 123 = ((-2147483648, 2147483647), []) := by decide +kernel
set_option maxRecDepth 100000 in
theorem ae_124 : aent 124 = ((-2147483648, 2147483647), []) := by decide +kernel
set_option maxRecDepth 100000 in
theorem ae_125 : aent 125 = ((-2147483648, 2147483647), []) := by decide +kernel
set_option maxRecDepth 100000 in
theorem ae_126 : aent 126 = ((-1, 5), []) := by decide +kernel
set_option maxRecDepth 100000 in
theorem ae_127 : aent 127 = ((0, 12), []) := by decide +kernel
set_option maxRecDepth 100000 in
theorem ae_128 : aent 128 = ((0, 11), []) := by decide +kernel
set_option maxRecDepth 100000 in
theorem ae_129 : aent 129 = ((-2147483648, 2147483647), []) := by decide +kernel
set_option maxRecDepth 100000 in
theorem ae_130 : aent 130 = ((-2147483648, 2147483647), []) := by decide +kernel
set_option maxRecDepth 100000 in
theorem ae_131 : aent 131 = ((-2147483648, 2147483647), []) := by decide +kernel
set_option maxRecDepth 100000 in
theorem ae_132 : aent 132 = ((-2147483648, 2147483647), []) := by decide +kernel
set_option maxRecDepth 100000 in
theorem ae_133 : aent 133 = ((-2147483648, 2147483647), []) := by decide +kernel
set_option maxRecDepth 100000 in
theorem ae_134 : aent 134 = ((0, 999), []) := by decide +kernel
set_option maxRecDepth 100000 in
theorem ae_135 : aent 135 = ((0, 8), []) := by decide +kernel
set_option maxRecDepth 100000 in
theorem ae_136 : aent 136 = ((0, 6), []) := by decide +kernel
set_option maxRecDepth 100000 in
theorem ae_137 : aent 137 = ((-2147483648, 2147483647), []) := by decide +kernel
set_option maxRecDepth 100000 in
theorem ae_138 : aent 138 = ((-2147483648, 2147483647), []) := by decide +kernel
set_option maxRecDepth 100000 in
theorem ae_139 : aent 139 = ((-1, 23), []) := by decide +kernel
set_option maxRecDepth 100000 in
theorem ae_140 : aent 140 = ((0, 1), []) := by decide +kernel
set_option maxRecDepth 100000 in
theorem ae_141 : aent 141 = ((0, 5), []) := by decide +kernel
set_option maxRecDepth 100000 in
theorem ae_142 : aent 142 = ((-2147483648, 2147483647), []) := by decide +kernel
set_option maxRecDepth 100000 in
theorem ae_143 : aent 143 = ((-2147483648, 2147483647), []) := by decide +kernel
theorem w32c_m3 : w32 (-3) = (-3) := by decide +kernel
theorem w32c_m2 : w32 (-2) = (-2) := by decide +kernel
theorem w32c_m1 : w32 (-1) = (-1) := by decide +kernel
theorem w32c_0 : w32 0 = 0 := by decide +kernel
theorem w32c_1 : w32 1 = 1 := by decide +kernel
theorem w32c_2 : w32 2 = 2 := by decide +kernel
theorem w32c_3 : w32 3 = 3 := by decide +kernel
theorem w32c_4 : w32 4 = 4 := by decide +kernel
theorem w32c_5 : w32 5 = 5 := by decide +kernel
theorem w32c_6 : w32 6 = 6 := by decide +kernel
theorem w32c_7 : w32 7 = 7 := by decide +kernel
theorem w32c_8 : w32 8 = 8 := by decide +kernel
theorem w32c_9 : w32 9 = 9 := by decide +kernel
theorem w32c_10 : w32 10 = 10 := by decide +kernel
theorem w32c_11 : w32 11 = 11 := by decide +kernel
theorem w32c_12 : w32 12 = 12 := by decide +kernel
theorem w32c_13 : w32 13 = 13 := by decide +kernel
theorem w32c_14 : w32 14 = 14 := by decide +kernel
theorem w32c_15 : w32 15 = 15 := by decide +kernel
theorem w32c_16 : w32 16 = 16 := by decide +kernel
theorem w32c_17 : w32 17 = 17 := by decide +kernel
theorem w32c_18 : w32 18 = 18 := by decide +kernel
theorem w32c_19 : w32 19 = 19 := by decide +kernel
theorem w32c_20 : w32 20 = 20 := by decide +kernel
theorem w32c_21 : w32 21 = 21 := by decide +kernel
theorem w32c_22 : w32 22 = 22 := by decide +kernel
theorem w32c_23 : w32 23 = 23 := by decide +kernel
theorem w32c_24 : w32 24 = 24 := by decide +kernel
theorem w32c_25 : w32 25 = 25 := by decide +kernel
theorem w32c_26 : w32 26 = 26 := by decide +kernel
theorem w32c_27 : w32 27 = 27 := by decide +kernel
theorem w32c_28 : w32 28 = 28 := by decide +kernel
theorem w32c_29 : w32 29 = 29 := by decide +kernel
theorem w32c_30 : w32 30 = 30 := by decide +kernel
theorem w32c_31 : w32 31 = 31 := by decide +kernel
theorem w32c_32 : w32 32 = 32 := by decide +kernel
theorem w32c_33 : w32 33 = 33 := by decide +kernel
theorem w32c_34 : w32 34 = 34 := by decide +kernel
theorem w32c_35 : w32 35 = 35 := by decide +kernel
theorem w32c_36 : w32 36 = 36 := by decide +kernel
theorem w32c_37 : w32 37 = 37 := by decide +kernel
theorem w32c_38 : w32 38 = 38 := by decide +kernel
theorem w32c_39 : w32 39 = 39 := by decide +kernel
theorem w32c_40 : w32 40 = 40 := by decide +kernel
theorem w32c_41 : w32 41 = 41 := by decide +kernel
theorem w32c_42 : w32 42 = 42 := by decide +kernel
theorem w32c_43 : w32 43 = 43 := by decide +kernel
theorem w32c_44 : w32 44 = 44 := by decide +kernel
theorem w32c_45 : w32 45 = 45 := by decide +kernel
theorem w32c_46 : w32 46 = 46 := by decide +kernel
theorem w32c_47 : w32 47 = 47 := by decide +kernel
theorem w32c_48 : w32 48 = 48 := by decide +kernel
theorem w32c_49 : w32 49 = 49 := by decide +kernel
theorem w32c_50 : w32 50 = 50 := by decide +kernel
theorem w32c_51 : w32 51 = 51 := by decide +kernel
theorem w32c_52 : w32 52 = 52 := by decide +kernel
theorem w32c_53 : w32 53 = 53 := by decide +kernel
theorem w32c_54 : w32 54 = 54 := by decide +kernel
theorem w32c_55 : w32 55 = 55 := by decide +kernel
theorem w32c_56 : w32 56 = 56 := by decide +kernel
theorem w32c_57 : w32 57 = 57 := by decide +kernel
theorem w32c_58 : w32 58 = 58 := by decide +kernel
theorem w32c_59 : w32 59 = 59 := by decide +kernel
theorem w32c_60 : w32 60 = 60 := by decide +kernel
theorem w32c_61 : w32 61 = 61 := by decide +kernel
theorem w32c_62 : w32 62 = 62 := by decide +kernel
theorem w32c_63 : w32 63 = 63 := by decide +kernel
theorem w32c_64 : w32 64 = 64 := by decide +kernel
theorem w32c_65 : w32 65 = 65 := by decide +kernel
theorem w32c_66 : w32 66 = 66 := by decide +kernel
theorem w32c_67 : w32 67 = 67 := by decide +kernel
theorem w32c_68 : w32 68 = 68 := by decide +kernel
theorem w32c_69 : w32 69 = 69 := by decide +kernel
theorem w32c_70 : w32 70 = 70 := by decide +kernel
theorem w32c_71 : w32 71 = 71 := by decide +kernel
theorem w32c_72 : w32 72 = 72 := by decide +kernel
theorem w32c_73 : w32 73 = 73 := by decide +kernel
theorem w32c_74 : w32 74 = 74 := by decide +kernel
theorem w32c_75 : w32 75 = 75 := by decide +kernel
theorem w32c_76 : w32 76 = 76 := by decide +kernel
theorem w32c_77 : w32 77 = 77 := by decide +kernel
theorem w32c_78 : w32 78 = 78 := by decide +kernel
theorem w32c_79 : w32 79 = 79 := by decide +kernel
theorem w32c_80 : w32 80 = 80 := by decide +kernel
theorem w32c_81 : w32 81 = 81 := by decide +kernel
theorem w32c_82 : w32 82 = 82 := by decide +kernel
theorem w32c_83 : w32 83 = 83 := by decide +kernel
theorem w32c_84 : w32 84 = 84 := by decide +kernel
theorem w32c_85 : w32 85 = 85 := by decide +kernel
theorem w32c_86 : w32 86 = 86 := by decide +kernel
theorem w32c_87 : w32 87 = 87 := by decide +kernel
theorem w32c_88 : w32 88 = 88 := by decide +kernel
theorem w32c_89 : w32 89 = 89 := by decide +kernel
theorem w32c_90 : w32 90 = 90 := by decide +kernel
theorem w32c_91 : w32 91 = 91 := by decide +kernel
theorem w32c_92 : w32 92 = 92 := by decide +kernel
theorem w32c_93 : w32 93 = 93 := by decide +kernel
theorem w32c_94 : w32 94 = 94 := by decide +kernel
theorem w32c_95 : w32 95 = 95 := by decide +kernel
theorem w32c_96 : w32 96 = 96 := by decide +kernel
theorem w32c_97 : w32 97 = 97 := by decide +kernel
theorem w32c_98 : w32 98 = 98 := by decide +kernel
theorem w32c_99 : w32 99 = 99 := by decide +kernel
theorem w32c_100 : w32 100 = 100 := by decide +kernel
theorem w32c_101 : w32 101 = 101 := by decide +kernel
theorem w32c_102 : w32 102 = 102 := by decide +kernel
theorem w32c_103 : w32 103 = 103 := by decide +kernel
theorem w32c_104 : w32 104 = 104 := by decide +kernel
theorem w32c_105 : w32 105 = 105 := by decide +kernel
theorem w32c_106 : w32 106 = 106 := by decide +kernel
theorem w32c_107 : w32 107 = 107 := by decide +kernel
theorem w32c_108 : w32 108 = 108 := by decide +kernel
theorem w32c_109 : w32 109 = 109 := by decide +kernel
theorem w32c_110 : w32 110 = 110 := by decide +kernel
theorem w32c_111 : w32 111 = 111 := by decide +kernel
theorem w32c_112 : w32 112 = 112 := by decide +kernel
theorem w32c_113 : w32 113 = 113 := by decide +kernel
theorem w32c_114 : w32 114 = 114 := by decide +kernel
theorem w32c_115 : w32 115 = 115 := by decide +kernel
theorem w32c_116 : w32 116 = 116 := by decide +kernel
theorem w32c_117 : w32 117 = 117 := by decide +kernel
theorem w32c_118 : w32 118 = 118 := by decide +kernel
theorem w32c_119 : w32 119 = 119 := by decide +kernel
theorem w32c_120 : w32 120 = 120 := by decide +kernel
theorem w32c_121 : w32 121 = 121 := by decide +kernel
theorem w32c_122 : w32 122 = 122 := by decide +kernel
theorem w32c_123 : w32 123 = 123 := by decide +kernel
theorem w32c_124 : w32 124 = 124 := by decide +kernel
theorem w32c_125 : w32 125 = 125 := by decide +kernel
theorem w32c_126 : w32 126 = 126 := by decide +kernel
theorem w32c_127 : w32 127 = 127 := by decide +kernel
theorem w32c_128 : w32 128 = 128 := by decide +kernel
theorem w32c_129 : w32 129 = 129 := by decide +kernel
theorem w32c_255 : w32 255 = 255 := by decide +kernel
theorem w32c_256 : w32 256 = 256 := by decide +kernel
theorem w32c_257 : w32 257 = 257 := by decide +kernel
theorem w32c_258 : w32 258 = 258 := by decide +kernel
theorem w32c_260 : w32 260 = 260 := by decide +kernel
theorem w32c_261 : w32 261 = 261 := by decide +kernel
theorem w32c_262 : w32 262 = 262 := by decide +kernel
theorem w32c_343 : w32 343 = 343 := by decide +kernel
theorem w32c_780 : w32 780 = 780 := by decide +kernel
theorem w32c_800 : w32 800 = 800 := by decide +kernel
theorem w32c_801 : w32 801 = 801 := by decide +kernel
theorem w32c_802 : w32 802 = 802 := by decide +kernel
theorem w32c_999 : w32 999 = 999 := by decide +kernel
theorem w32c_1000 : w32 1000 = 1000 := by decide +kernel
theorem w32c_9999 : w32 9999 = 9999 := by decide +kernel
theorem w32c_65536 : w32 65536 = 65536 := by decide +kernel
theorem w32c_99999 : w32 99999 = 99999 := by decide +kernel
theorem w32c_1000000 : w32 1000000 = 1000000 := by decide +kernel

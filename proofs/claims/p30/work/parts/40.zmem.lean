section
theorem zio_0 : zio 0 11 = true := rfl
theorem zar_1 : zar 1 1 = 800 := rfl
theorem zia_1 : zia 1 = true := rfl
theorem zit_1 : zit 1 1 = true := rfl
theorem zln_1 : zln 1 = 800 := rfl
theorem zio_2 : zio 2 4 = true := rfl
theorem zio_3 : zio 3 6 = true := rfl
theorem zar_4 : zar 4 0 = 3 := rfl
theorem zia_4 : zia 4 = true := rfl
theorem zit_4 : zit 4 0 = true := rfl
theorem zln_4 : zln 4 = 3 := rfl
theorem zio_5 : zio 5 6 = true := rfl
theorem zar_6 : zar 6 0 = 6 := rfl
theorem zia_6 : zia 6 = true := rfl
theorem zit_6 : zit 6 0 = true := rfl
theorem zln_6 : zln 6 = 6 := rfl
theorem zio_7 : zio 7 6 = true := rfl
theorem zar_8 : zar 8 0 = 4 := rfl
theorem zia_8 : zia 8 = true := rfl
theorem zit_8 : zit 8 0 = true := rfl
theorem zln_8 : zln 8 = 4 := rfl
theorem zio_9 : zio 9 6 = true := rfl
theorem zar_10 : zar 10 0 = 3 := rfl
theorem zia_10 : zia 10 = true := rfl
theorem zit_10 : zit 10 0 = true := rfl
theorem zln_10 : zln 10 = 3 := rfl
theorem zar_11 : zar 11 0 = 3 := rfl
theorem zia_11 : zia 11 = true := rfl
theorem zit_11 : zit 11 0 = true := rfl
theorem zln_11 : zln 11 = 3 := rfl
theorem zar_12 : zar 12 0 = 3 := rfl
theorem zia_12 : zia 12 = true := rfl
theorem zit_12 : zit 12 0 = true := rfl
theorem zln_12 : zln 12 = 3 := rfl
theorem zar_13 : zar 13 0 = 6 := rfl
theorem zia_13 : zia 13 = true := rfl
theorem zit_13 : zit 13 0 = true := rfl
theorem zln_13 : zln 13 = 6 := rfl
theorem zar_14 : zar 14 0 = 6 := rfl
theorem zia_14 : zia 14 = true := rfl
theorem zit_14 : zit 14 0 = true := rfl
theorem zln_14 : zln 14 = 6 := rfl
theorem zar_15 : zar 15 0 = 6 := rfl
theorem zia_15 : zia 15 = true := rfl
theorem zit_15 : zit 15 0 = true := rfl
theorem zln_15 : zln 15 = 6 := rfl
theorem zar_16 : zar 16 0 = 6 := rfl
theorem zia_16 : zia 16 = true := rfl
theorem zit_16 : zit 16 0 = true := rfl
theorem zln_16 : zln 16 = 6 := rfl
theorem zar_17 : zar 17 0 = 6 := rfl
theorem zia_17 : zia 17 = true := rfl
theorem zit_17 : zit 17 0 = true := rfl
theorem zln_17 : zln 17 = 6 := rfl
theorem zar_18 : zar 18 0 = 4 := rfl
theorem zia_18 : zia 18 = true := rfl
theorem zit_18 : zit 18 0 = true := rfl
theorem zln_18 : zln 18 = 4 := rfl
theorem zar_19 : zar 19 0 = 12 := rfl
theorem zia_19 : zia 19 = true := rfl
theorem zit_19 : zit 19 0 = true := rfl
theorem zln_19 : zln 19 = 12 := rfl
theorem zar_20 : zar 20 0 = 96 := rfl
theorem zia_20 : zia 20 = true := rfl
theorem zit_20 : zit 20 0 = true := rfl
theorem zln_20 : zln 20 = 96 := rfl
theorem zar_21 : zar 21 0 = 3 := rfl
theorem zia_21 : zia 21 = true := rfl
theorem zit_21 : zit 21 0 = true := rfl
theorem zln_21 : zln 21 = 3 := rfl
theorem zio_22 : zio 22 2 = true := rfl
theorem zar_23 : zar 23 0 = 64 := rfl
theorem zia_23 : zia 23 = true := rfl
theorem zit_23 : zit 23 0 = true := rfl
theorem zln_23 : zln 23 = 64 := rfl
theorem zar_24 : zar 24 0 = 64 := rfl
theorem zia_24 : zia 24 = true := rfl
theorem zit_24 : zit 24 0 = true := rfl
theorem zln_24 : zln 24 = 64 := rfl
theorem zar_25 : zar 25 0 = 5 := rfl
theorem zia_25 : zia 25 = true := rfl
theorem zit_25 : zit 25 0 = true := rfl
theorem zln_25 : zln 25 = 5 := rfl
theorem zar_26 : zar 26 0 = 5 := rfl
theorem zia_26 : zia 26 = true := rfl
theorem zit_26 : zit 26 0 = true := rfl
theorem zln_26 : zln 26 = 5 := rfl
theorem zar_27 : zar 27 0 = 72 := rfl
theorem zia_27 : zia 27 = true := rfl
theorem zit_27 : zit 27 0 = true := rfl
theorem zln_27 : zln 27 = 72 := rfl
theorem zio_28 : zio 28 4 = true := rfl
theorem zio_29 : zio 29 6 = true := rfl
theorem zar_30 : zar 30 0 = 3 := rfl
theorem zia_30 : zia 30 = true := rfl
theorem zit_30 : zit 30 0 = true := rfl
theorem zln_30 : zln 30 = 3 := rfl
theorem zio_31 : zio 31 6 = true := rfl
theorem zar_32 : zar 32 0 = 6 := rfl
theorem zia_32 : zia 32 = true := rfl
theorem zit_32 : zit 32 0 = true := rfl
theorem zln_32 : zln 32 = 6 := rfl
theorem zio_33 : zio 33 6 = true := rfl
theorem zar_34 : zar 34 0 = 4 := rfl
theorem zia_34 : zia 34 = true := rfl
theorem zit_34 : zit 34 0 = true := rfl
theorem zln_34 : zln 34 = 4 := rfl
theorem zio_35 : zio 35 6 = true := rfl
theorem zar_36 : zar 36 0 = 3 := rfl
theorem zia_36 : zia 36 = true := rfl
theorem zit_36 : zit 36 0 = true := rfl
theorem zln_36 : zln 36 = 3 := rfl
theorem zar_37 : zar 37 0 = 3 := rfl
theorem zia_37 : zia 37 = true := rfl
theorem zit_37 : zit 37 0 = true := rfl
theorem zln_37 : zln 37 = 3 := rfl
theorem zar_38 : zar 38 0 = 3 := rfl
theorem zia_38 : zia 38 = true := rfl
theorem zit_38 : zit 38 0 = true := rfl
theorem zln_38 : zln 38 = 3 := rfl
theorem zar_39 : zar 39 0 = 6 := rfl
theorem zia_39 : zia 39 = true := rfl
theorem zit_39 : zit 39 0 = true := rfl
theorem zln_39 : zln 39 = 6 := rfl
theorem zar_40 : zar 40 0 = 6 := rfl
theorem zia_40 : zia 40 = true := rfl
theorem zit_40 : zit 40 0 = true := rfl
theorem zln_40 : zln 40 = 6 := rfl
theorem zar_41 : zar 41 0 = 6 := rfl
theorem zia_41 : zia 41 = true := rfl
theorem zit_41 : zit 41 0 = true := rfl
theorem zln_41 : zln 41 = 6 := rfl
theorem zar_42 : zar 42 0 = 6 := rfl
theorem zia_42 : zia 42 = true := rfl
theorem zit_42 : zit 42 0 = true := rfl
theorem zln_42 : zln 42 = 6 := rfl
theorem zar_43 : zar 43 0 = 6 := rfl
theorem zia_43 : zia 43 = true := rfl
theorem zit_43 : zit 43 0 = true := rfl
theorem zln_43 : zln 43 = 6 := rfl
theorem zar_44 : zar 44 0 = 4 := rfl
theorem zia_44 : zia 44 = true := rfl
theorem zit_44 : zit 44 0 = true := rfl
theorem zln_44 : zln 44 = 4 := rfl
theorem zar_45 : zar 45 0 = 12 := rfl
theorem zia_45 : zia 45 = true := rfl
theorem zit_45 : zit 45 0 = true := rfl
theorem zln_45 : zln 45 = 12 := rfl
theorem zar_46 : zar 46 0 = 96 := rfl
theorem zia_46 : zia 46 = true := rfl
theorem zit_46 : zit 46 0 = true := rfl
theorem zln_46 : zln 46 = 96 := rfl
theorem zar_47 : zar 47 0 = 3 := rfl
theorem zia_47 : zia 47 = true := rfl
theorem zit_47 : zit 47 0 = true := rfl
theorem zln_47 : zln 47 = 3 := rfl
theorem zio_48 : zio 48 2 = true := rfl
theorem zar_49 : zar 49 0 = 64 := rfl
theorem zia_49 : zia 49 = true := rfl
theorem zit_49 : zit 49 0 = true := rfl
theorem zln_49 : zln 49 = 64 := rfl
theorem zar_50 : zar 50 0 = 64 := rfl
theorem zia_50 : zia 50 = true := rfl
theorem zit_50 : zit 50 0 = true := rfl
theorem zln_50 : zln 50 = 64 := rfl
theorem zar_51 : zar 51 0 = 5 := rfl
theorem zia_51 : zia 51 = true := rfl
theorem zit_51 : zit 51 0 = true := rfl
theorem zln_51 : zln 51 = 5 := rfl
theorem zar_52 : zar 52 0 = 5 := rfl
theorem zia_52 : zia 52 = true := rfl
theorem zit_52 : zit 52 0 = true := rfl
theorem zln_52 : zln 52 = 5 := rfl
theorem zar_53 : zar 53 0 = 72 := rfl
theorem zia_53 : zia 53 = true := rfl
theorem zit_53 : zit 53 0 = true := rfl
theorem zln_53 : zln 53 = 72 := rfl
theorem zio_54 : zio 54 8 = true := rfl
theorem zio_55 : zio 55 9 = true := rfl
theorem zar_56 : zar 56 0 = 23 := rfl
theorem zia_56 : zia 56 = true := rfl
theorem zit_56 : zit 56 0 = true := rfl
theorem zln_56 : zln 56 = 23 := rfl
theorem zio_57 : zio 57 10 = true := rfl
theorem zar_58 : zar 58 0 = 3 := rfl
theorem zia_58 : zia 58 = true := rfl
theorem zit_58 : zit 58 0 = true := rfl
theorem zln_58 : zln 58 = 3 := rfl
theorem zar_59 : zar 59 0 = 6 := rfl
theorem zia_59 : zia 59 = true := rfl
theorem zit_59 : zit 59 0 = true := rfl
theorem zln_59 : zln 59 = 6 := rfl
theorem zar_60 : zar 60 0 = 3 := rfl
theorem zia_60 : zia 60 = true := rfl
theorem zit_60 : zit 60 0 = true := rfl
theorem zln_60 : zln 60 = 3 := rfl
theorem zar_61 : zar 61 0 = 12 := rfl
theorem zia_61 : zia 61 = true := rfl
theorem zit_61 : zit 61 0 = true := rfl
theorem zln_61 : zln 61 = 12 := rfl
theorem zar_62 : zar 62 0 = 12 := rfl
theorem zia_62 : zia 62 = true := rfl
theorem zit_62 : zit 62 0 = true := rfl
theorem zln_62 : zln 62 = 12 := rfl
theorem zar_63 : zar 63 0 = 12 := rfl
theorem zia_63 : zia 63 = true := rfl
theorem zit_63 : zit 63 0 = true := rfl
theorem zln_63 : zln 63 = 12 := rfl
theorem zio_64 : zio 64 10 = true := rfl
theorem zar_65 : zar 65 0 = 3 := rfl
theorem zia_65 : zia 65 = true := rfl
theorem zit_65 : zit 65 0 = true := rfl
theorem zln_65 : zln 65 = 3 := rfl
theorem zar_66 : zar 66 0 = 6 := rfl
theorem zia_66 : zia 66 = true := rfl
theorem zit_66 : zit 66 0 = true := rfl
theorem zln_66 : zln 66 = 6 := rfl
theorem zar_67 : zar 67 0 = 3 := rfl
theorem zia_67 : zia 67 = true := rfl
theorem zit_67 : zit 67 0 = true := rfl
theorem zln_67 : zln 67 = 3 := rfl
theorem zar_68 : zar 68 0 = 12 := rfl
theorem zia_68 : zia 68 = true := rfl
theorem zit_68 : zit 68 0 = true := rfl
theorem zln_68 : zln 68 = 12 := rfl
theorem zar_69 : zar 69 0 = 12 := rfl
theorem zia_69 : zia 69 = true := rfl
theorem zit_69 : zit 69 0 = true := rfl
theorem zln_69 : zln 69 = 12 := rfl
theorem zar_70 : zar 70 0 = 12 := rfl
theorem zia_70 : zia 70 = true := rfl
theorem zit_70 : zit 70 0 = true := rfl
theorem zln_70 : zln 70 = 12 := rfl
theorem zio_71 : zio 71 3 = true := rfl
theorem zar_72 : zar 72 0 = 24 := rfl
theorem zia_72 : zia 72 = true := rfl
theorem zit_72 : zit 72 0 = true := rfl
theorem zln_72 : zln 72 = 24 := rfl
theorem zio_73 : zio 73 5 = true := rfl
theorem zar_74 : zar 74 2 = 7 := rfl
theorem zia_74 : zia 74 = true := rfl
theorem zit_74 : zit 74 2 = true := rfl
theorem zln_74 : zln 74 = 7 := rfl
theorem zar_75 : zar 75 2 = 64 := rfl
theorem zia_75 : zia 75 = true := rfl
theorem zit_75 : zit 75 2 = true := rfl
theorem zln_75 : zln 75 = 64 := rfl
theorem zio_76 : zio 76 1 = true := rfl
theorem zar_77 : zar 77 0 = 72 := rfl
theorem zia_77 : zia 77 = true := rfl
theorem zit_77 : zit 77 0 = true := rfl
theorem zln_77 : zln 77 = 72 := rfl
theorem zar_78 : zar 78 0 = 72 := rfl
theorem zia_78 : zia 78 = true := rfl
theorem zit_78 : zit 78 0 = true := rfl
theorem zln_78 : zln 78 = 72 := rfl
theorem zar_79 : zar 79 0 = 25 := rfl
theorem zia_79 : zia 79 = true := rfl
theorem zit_79 : zit 79 0 = true := rfl
theorem zln_79 : zln 79 = 25 := rfl
theorem zar_80 : zar 80 4 = 5 := rfl
theorem zia_80 : zia 80 = true := rfl
theorem zit_80 : zit 80 4 = true := rfl
theorem zln_80 : zln 80 = 5 := rfl
theorem zar_81 : zar 81 0 = 97 := rfl
theorem zia_81 : zia 81 = true := rfl
theorem zit_81 : zit 81 0 = true := rfl
theorem zln_81 : zln 81 = 97 := rfl
theorem zar_82 : zar 82 0 = 97 := rfl
theorem zia_82 : zia 82 = true := rfl
theorem zit_82 : zit 82 0 = true := rfl
theorem zln_82 : zln 82 = 97 := rfl
theorem zar_83 : zar 83 0 = 97 := rfl
theorem zia_83 : zia 83 = true := rfl
theorem zit_83 : zit 83 0 = true := rfl
theorem zln_83 : zln 83 = 97 := rfl
theorem zar_84 : zar 84 0 = 97 := rfl
theorem zia_84 : zia 84 = true := rfl
theorem zit_84 : zit 84 0 = true := rfl
theorem zln_84 : zln 84 = 97 := rfl
theorem zar_85 : zar 85 0 = 97 := rfl
theorem zia_85 : zia 85 = true := rfl
theorem zit_85 : zit 85 0 = true := rfl
theorem zln_85 : zln 85 = 97 := rfl
theorem zar_86 : zar 86 0 = 12 := rfl
theorem zia_86 : zia 86 = true := rfl
theorem zit_86 : zit 86 0 = true := rfl
theorem zln_86 : zln 86 = 12 := rfl
theorem zio_87 : zio 87 7 = true := rfl
theorem zar_88 : zar 88 0 = 4 := rfl
theorem zia_88 : zia 88 = true := rfl
theorem zit_88 : zit 88 0 = true := rfl
theorem zln_88 : zln 88 = 4 := rfl
theorem zar_89 : zar 89 0 = 4 := rfl
theorem zia_89 : zia 89 = true := rfl
theorem zit_89 : zit 89 0 = true := rfl
theorem zln_89 : zln 89 = 4 := rfl
theorem zar_90 : zar 90 0 = 3 := rfl
theorem zia_90 : zia 90 = true := rfl
theorem zit_90 : zit 90 0 = true := rfl
theorem zln_90 : zln 90 = 3 := rfl
theorem zio_91 : zio 91 0 = true := rfl
theorem zar_92 : zar 92 0 = 6 := rfl
theorem zia_92 : zia 92 = true := rfl
theorem zit_92 : zit 92 0 = true := rfl
theorem zln_92 : zln 92 = 6 := rfl
theorem zar_93 : zar 93 0 = 4 := rfl
theorem zia_93 : zia 93 = true := rfl
theorem zit_93 : zit 93 0 = true := rfl
theorem zln_93 : zln 93 = 4 := rfl
theorem zar_94 : zar 94 0 = 4 := rfl
theorem zia_94 : zia 94 = true := rfl
theorem zit_94 : zit 94 0 = true := rfl
theorem zln_94 : zln 94 = 4 := rfl
theorem zio_95 : zio 95 12 = true := rfl
theorem zar_96 : zar 96 0 = 800 := rfl
theorem zia_96 : zia 96 = true := rfl
theorem zit_96 : zit 96 0 = true := rfl
theorem zln_96 : zln 96 = 800 := rfl
theorem zar_97 : zar 97 0 = 14 := rfl
theorem zia_97 : zia 97 = true := rfl
theorem zit_97 : zit 97 0 = true := rfl
theorem zln_97 : zln 97 = 14 := rfl
theorem zar_98 : zar 98 0 = 6 := rfl
theorem zia_98 : zia 98 = true := rfl
theorem zit_98 : zit 98 0 = true := rfl
theorem zln_98 : zln 98 = 6 := rfl
theorem zar_99 : zar 99 0 = 6 := rfl
theorem zia_99 : zia 99 = true := rfl
theorem zit_99 : zit 99 0 = true := rfl
theorem zln_99 : zln 99 = 6 := rfl
theorem zar_100 : zar 100 0 = 6 := rfl
theorem zia_100 : zia 100 = true := rfl
theorem zit_100 : zit 100 0 = true := rfl
theorem zln_100 : zln 100 = 6 := rfl
theorem zar_101 : zar 101 0 = 12 := rfl
theorem zia_101 : zia 101 = true := rfl
theorem zit_101 : zit 101 0 = true := rfl
theorem zln_101 : zln 101 = 12 := rfl
theorem zar_102 : zar 102 0 = 12 := rfl
theorem zia_102 : zia 102 = true := rfl
theorem zit_102 : zit 102 0 = true := rfl
theorem zln_102 : zln 102 = 12 := rfl
theorem zar_103 : zar 103 0 = 12 := rfl
theorem zia_103 : zia 103 = true := rfl
theorem zit_103 : zit 103 0 = true := rfl
theorem zln_103 : zln 103 = 12 := rfl
theorem zar_104 : zar 104 3 = 12 := rfl
theorem zia_104 : zia 104 = true := rfl
theorem zit_104 : zit 104 3 = true := rfl
theorem zln_104 : zln 104 = 12 := rfl
theorem zar_105 : zar 105 0 = 12 := rfl
theorem zia_105 : zia 105 = true := rfl
theorem zit_105 : zit 105 0 = true := rfl
theorem zln_105 : zln 105 = 12 := rfl
theorem zar_106 : zar 106 0 = 12 := rfl
theorem zia_106 : zia 106 = true := rfl
theorem zit_106 : zit 106 0 = true := rfl
theorem zln_106 : zln 106 = 12 := rfl
theorem zar_107 : zar 107 0 = 12 := rfl
theorem zia_107 : zia 107 = true := rfl
theorem zit_107 : zit 107 0 = true := rfl
theorem zln_107 : zln 107 = 12 := rfl
theorem zar_108 : zar 108 0 = 8 := rfl
theorem zia_108 : zia 108 = true := rfl
theorem zit_108 : zit 108 0 = true := rfl
theorem zln_108 : zln 108 = 8 := rfl
theorem zar_109 : zar 109 0 = 8 := rfl
theorem zia_109 : zia 109 = true := rfl
theorem zit_109 : zit 109 0 = true := rfl
theorem zln_109 : zln 109 = 8 := rfl
theorem zar_110 : zar 110 0 = 24 := rfl
theorem zia_110 : zia 110 = true := rfl
theorem zit_110 : zit 110 0 = true := rfl
theorem zln_110 : zln 110 = 24 := rfl
theorem zar_111 : zar 111 0 = 192 := rfl
theorem zia_111 : zia 111 = true := rfl
theorem zit_111 : zit 111 0 = true := rfl
theorem zln_111 : zln 111 = 192 := rfl
theorem zar_112 : zar 112 0 = 6 := rfl
theorem zia_112 : zia 112 = true := rfl
theorem zit_112 : zit 112 0 = true := rfl
theorem zln_112 : zln 112 = 6 := rfl
theorem zar_113 : zar 113 0 = 6 := rfl
theorem zia_113 : zia 113 = true := rfl
theorem zit_113 : zit 113 0 = true := rfl
theorem zln_113 : zln 113 = 6 := rfl
theorem zar_114 : zar 114 0 = 10 := rfl
theorem zia_114 : zia 114 = true := rfl
theorem zit_114 : zit 114 0 = true := rfl
theorem zln_114 : zln 114 = 10 := rfl
theorem zar_115 : zar 115 0 = 10 := rfl
theorem zia_115 : zia 115 = true := rfl
theorem zit_115 : zit 115 0 = true := rfl
theorem zln_115 : zln 115 = 10 := rfl
theorem zar_116 : zar 116 0 = 128 := rfl
theorem zia_116 : zia 116 = true := rfl
theorem zit_116 : zit 116 0 = true := rfl
theorem zln_116 : zln 116 = 128 := rfl
theorem zar_117 : zar 117 0 = 128 := rfl
theorem zia_117 : zia 117 = true := rfl
theorem zit_117 : zit 117 0 = true := rfl
theorem zln_117 : zln 117 = 128 := rfl
theorem zar_118 : zar 118 0 = 2 := rfl
theorem zia_118 : zia 118 = true := rfl
theorem zit_118 : zit 118 0 = true := rfl
theorem zln_118 : zln 118 = 2 := rfl
theorem zar_119 : zar 119 0 = 2 := rfl
theorem zia_119 : zia 119 = true := rfl
theorem zit_119 : zit 119 0 = true := rfl
theorem zln_119 : zln 119 = 2 := rfl
theorem zar_120 : zar 120 0 = 2 := rfl
theorem zia_120 : zia 120 = true := rfl
theorem zit_120 : zit 120 0 = true := rfl
theorem zln_120 : zln 120 = 2 := rfl
theorem zar_121 : zar 121 0 = 2 := rfl
theorem zia_121 : zia 121 = true := rfl
theorem zit_121 : zit 121 0 = true := rfl
theorem zln_121 : zln 121 = 2 := rfl
theorem zar_122 : zar 122 0 = 2 := rfl
theorem zia_122 : zia 122 = true := rfl
theorem zit_122 : zit 122 0 = true := rfl
theorem zln_122 : zln 122 = 2 := rfl
theorem zar_123 : zar 123 0 = 6 := rfl
theorem zia_123 : zia 123 = true := rfl
theorem zit_123 : zit 123 0 = true := rfl
theorem zln_123 : zln 123 = 6 := rfl
theorem zar_124 : zar 124 0 = 6 := rfl
theorem zia_124 : zia 124 = true := rfl
theorem zit_124 : zit 124 0 = true := rfl
theorem zln_124 : zln 124 = 6 := rfl
theorem zar_125 : zar 125 0 = 12 := rfl
theorem zia_125 : zia 125 = true := rfl
theorem zit_125 : zit 125 0 = true := rfl
theorem zln_125 : zln 125 = 12 := rfl
theorem zar_126 : zar 126 0 = 24 := rfl
theorem zia_126 : zia 126 = true := rfl
theorem zit_126 : zit 126 0 = true := rfl
theorem zln_126 : zln 126 = 24 := rfl
theorem zar_127 : zar 127 0 = 2 := rfl
theorem zia_127 : zia 127 = true := rfl
theorem zit_127 : zit 127 0 = true := rfl
theorem zln_127 : zln 127 = 2 := rfl
theorem zar_128 : zar 128 0 = 24 := rfl
theorem zia_128 : zia 128 = true := rfl
theorem zit_128 : zit 128 0 = true := rfl
theorem zln_128 : zln 128 = 24 := rfl
theorem zar_129 : zar 129 0 = 24 := rfl
theorem zia_129 : zia 129 = true := rfl
theorem zit_129 : zit 129 0 = true := rfl
theorem zln_129 : zln 129 = 24 := rfl
theorem zar_130 : zar 130 2 = 7 := rfl
theorem zia_130 : zia 130 = true := rfl
theorem zit_130 : zit 130 2 = true := rfl
theorem zln_130 : zln 130 = 7 := rfl
theorem zar_131 : zar 131 2 = 64 := rfl
theorem zia_131 : zia 131 = true := rfl
theorem zit_131 : zit 131 2 = true := rfl
theorem zln_131 : zln 131 = 64 := rfl
theorem zar_132 : zar 132 0 = 5000 := rfl
theorem zia_132 : zia 132 = true := rfl
theorem zit_132 : zit 132 0 = true := rfl
theorem zln_132 : zln 132 = 5000 := rfl
theorem zar_133 : zar 133 0 = 5000 := rfl
theorem zia_133 : zia 133 = true := rfl
theorem zit_133 : zit 133 0 = true := rfl
theorem zln_133 : zln 133 = 5000 := rfl
theorem zar_134 : zar 134 0 = 72 := rfl
theorem zia_134 : zia 134 = true := rfl
theorem zit_134 : zit 134 0 = true := rfl
theorem zln_134 : zln 134 = 72 := rfl
theorem zar_135 : zar 135 0 = 72 := rfl
theorem zia_135 : zia 135 = true := rfl
theorem zit_135 : zit 135 0 = true := rfl
theorem zln_135 : zln 135 = 72 := rfl
theorem zar_136 : zar 136 0 = 3 := rfl
theorem zia_136 : zia 136 = true := rfl
theorem zit_136 : zit 136 0 = true := rfl
theorem zln_136 : zln 136 = 3 := rfl
theorem zar_137 : zar 137 0 = 3 := rfl
theorem zia_137 : zia 137 = true := rfl
theorem zit_137 : zit 137 0 = true := rfl
theorem zln_137 : zln 137 = 3 := rfl
theorem zar_138 : zar 138 0 = 24 := rfl
theorem zia_138 : zia 138 = true := rfl
theorem zit_138 : zit 138 0 = true := rfl
theorem zln_138 : zln 138 = 24 := rfl
theorem zar_139 : zar 139 0 = 24 := rfl
theorem zia_139 : zia 139 = true := rfl
theorem zit_139 : zit 139 0 = true := rfl
theorem zln_139 : zln 139 = 24 := rfl
theorem zar_140 : zar 140 3 = 24 := rfl
theorem zia_140 : zia 140 = true := rfl
theorem zit_140 : zit 140 3 = true := rfl
theorem zln_140 : zln 140 = 24 := rfl
theorem zar_141 : zar 141 0 = 4 := rfl
theorem zia_141 : zia 141 = true := rfl
theorem zit_141 : zit 141 0 = true := rfl
theorem zln_141 : zln 141 = 4 := rfl
theorem zar_142 : zar 142 0 = 4 := rfl
theorem zia_142 : zia 142 = true := rfl
theorem zit_142 : zit 142 0 = true := rfl
theorem zln_142 : zln 142 = 4 := rfl
theorem zar_143 : zar 143 2 = 1 := rfl
theorem zia_143 : zia 143 = true := rfl
theorem zit_143 : zit 143 2 = true := rfl
theorem zln_143 : zln 143 = 1 := rfl
set_option maxRecDepth 100000 in
theorem ag_0_11 : agam 0 11 = (0, 800) := by decide +kernel
set_option maxRecDepth 100000 in
theorem ag_0_12 : agam 0 12 = (-2147483648, 2147483647) := by decide +kernel
set_option maxRecDepth 100000 in
theorem ag_0_13 : agam 0 13 = (-2147483648, 2147483647) := by decide +kernel
set_option maxRecDepth 100000 in
theorem ag_0_14 : agam 0 14 = (0, 1) := by decide +kernel
set_option maxRecDepth 100000 in
theorem ae_1 : aent 1 = ((-128, 127), []) := by decide +kernel
set_option maxRecDepth 100000 in
theorem ae_2 : aent 2 = ((-2147483648, 2147483647), []) := by decide +kernel
set_option maxRecDepth 100000 in
theorem ag_3_1 : agam 3 1 = (0, 3) := by decide +kernel
set_option maxRecDepth 100000 in
theorem ae_4 : aent 4 = ((-2147483648, 2147483647), []) := by decide +kernel
set_option maxRecDepth 100000 in
theorem ag_5_1 : agam 5 1 = (0, 6) := by decide +kernel
set_option maxRecDepth 100000 in
theorem ae_6 : aent 6 = ((-2147483648, 2147483647), []) := by decide +kernel
set_option maxRecDepth 100000 in
theorem ag_7_1 : agam 7 1 = (0, 4) := by decide +kernel
set_option maxRecDepth 100000 in
theorem ae_8 : aent 8 = ((-2147483648, 2147483647), []) := by decide +kernel
set_option maxRecDepth 100000 in
theorem ag_9_1 : agam 9 1 = (0, 3) := by decide +kernel
set_option maxRecDepth 100000 in
theorem ae_10 : aent 10 = ((-2147483648, 2147483647), []) := by decide +kernel
set_option maxRecDepth 100000 in
theorem ae_11 : aent 11 = ((-2147483648, 2147483647), []) := by decide +kernel
set_option maxRecDepth 100000 in
theorem ae_12 : aent 12 = ((-2147483648, 2147483647), []) := by decide +kernel
set_option maxRecDepth 100000 in
theorem ae_13 : aent 13 = ((-2147483648, 2147483647), []) := by decide +kernel
set_option maxRecDepth 100000 in
theorem ae_14 : aent 14 = ((-2147483648, 2147483647), []) := by decide +kernel
set_option maxRecDepth 100000 in
theorem ae_15 : aent 15 = ((-1, 2), []) := by decide +kernel
set_option maxRecDepth 100000 in
theorem ae_16 : aent 16 = ((-2147483648, 2147483647), []) := by decide +kernel
set_option maxRecDepth 100000 in
theorem ae_17 : aent 17 = ((-2147483648, 2147483647), []) := by decide +kernel
set_option maxRecDepth 100000 in
theorem ae_18 : aent 18 = ((0, 3), []) := by decide +kernel
set_option maxRecDepth 100000 in
theorem ae_19 : aent 19 = ((0, 8), []) := by decide +kernel
set_option maxRecDepth 100000 in
theorem ae_20 : aent 20 = ((-2147483648, 2147483647), []) := by decide +kernel
set_option maxRecDepth 100000 in
theorem ae_21 : aent 21 = ((-2147483648, 2147483647), []) := by decide +kernel
set_option maxRecDepth 100000 in
theorem ag_22_4 : agam 22 4 = (0, 64) := by decide +kernel
set_option maxRecDepth 100000 in
theorem ag_22_6 : agam 22 6 = (0, 72) := by decide +kernel
set_option maxRecDepth 100000 in
theorem ag_22_7 : agam 22 7 = (0, 8) := by decide +kernel
set_option maxRecDepth 100000 in
theorem ag_22_8 : agam 22 8 = (0, 64) := by decide +kernel
set_option maxRecDepth 100000 in
theorem ag_22_9 : agam 22 9 = (0, 1) := by decide +kernel
set_option maxRecDepth 100000 in
theorem ae_23 : aent 23 = ((-2147483648, 2147483647), []) := by decide +kernel
set_option maxRecDepth 100000 in
theorem ae_24 : aent 24 = ((-2147483648, 2147483647), []) := by decide +kernel
set_option maxRecDepth 100000 in
theorem ae_25 : aent 25 = ((0, 64), []) := by decide +kernel
set_option maxRecDepth 100000 in
theorem ae_26 : aent 26 = ((0, 64), []) := by decide +kernel
set_option maxRecDepth 100000 in
theorem ae_27 : aent 27 = ((-2147483648, 2147483647), []) := by decide +kernel
set_option maxRecDepth 100000 in
theorem ae_28 : aent 28 = ((-2147483648, 2147483647), []) := by decide +kernel
set_option maxRecDepth 100000 in
theorem ag_29_1 : agam 29 1 = (0, 3) := by decide +kernel
set_option maxRecDepth 100000 in
theorem ae_30 : aent 30 = ((-2147483648, 2147483647), []) := by decide +kernel
set_option maxRecDepth 100000 in
theorem ag_31_1 : agam 31 1 = (0, 6) := by decide +kernel
set_option maxRecDepth 100000 in
theorem ae_32 : aent 32 = ((-2147483648, 2147483647), []) := by decide +kernel
set_option maxRecDepth 100000 in
theorem ag_33_1 : agam 33 1 = (0, 4) := by decide +kernel
set_option maxRecDepth 100000 in
theorem ae_34 : aent 34 = ((-2147483648, 2147483647), []) := by decide +kernel
set_option maxRecDepth 100000 in
theorem ag_35_1 : agam 35 1 = (0, 3) := by decide +kernel
set_option maxRecDepth 100000 in
theorem ae_36 : aent 36 = ((-2147483648, 2147483647), []) := by decide +kernel
set_option maxRecDepth 100000 in
theorem ae_37 : aent 37 = ((-2147483648, 2147483647), []) := by decide +kernel
set_option maxRecDepth 100000 in
theorem ae_38 : aent 38 = ((-2147483648, 2147483647), []) := by decide +kernel
set_option maxRecDepth 100000 in
theorem ae_39 : aent 39 = ((-2147483648, 2147483647), []) := by decide +kernel
set_option maxRecDepth 100000 in
theorem ae_40 : aent 40 = ((-2147483648, 2147483647), []) := by decide +kernel
set_option maxRecDepth 100000 in
theorem ae_41 : aent 41 = ((-1, 2), []) := by decide +kernel
set_option maxRecDepth 100000 in
theorem ae_42 : aent 42 = ((-2147483648, 2147483647), []) := by decide +kernel
set_option maxRecDepth 100000 in
theorem ae_43 : aent 43 = ((-2147483648, 2147483647), []) := by decide +kernel
set_option maxRecDepth 100000 in
theorem ae_44 : aent 44 = ((0, 3), []) := by decide +kernel
set_option maxRecDepth 100000 in
theorem ae_45 : aent 45 = ((0, 8), []) := by decide +kernel
set_option maxRecDepth 100000 in
theorem ae_46 : aent 46 = ((-2147483648, 2147483647), []) := by decide +kernel
set_option maxRecDepth 100000 in
theorem ae_47 : aent 47 = ((-2147483648, 2147483647), []) := by decide +kernel
set_option maxRecDepth 100000 in
theorem ag_48_4 : agam 48 4 = (0, 64) := by decide +kernel
set_option maxRecDepth 100000 in
theorem ag_48_6 : agam 48 6 = (0, 72) := by decide +kernel
set_option maxRecDepth 100000 in
theorem ag_48_7 : agam 48 7 = (0, 8) := by decide +kernel
set_option maxRecDepth 100000 in
theorem ag_48_8 : agam 48 8 = (0, 64) := by decide +kernel
set_option maxRecDepth 100000 in
theorem ag_48_9 : agam 48 9 = (0, 1) := by decide +kernel
set_option maxRecDepth 100000 in
theorem ae_49 : aent 49 = ((-2147483648, 2147483647), []) := by decide +kernel
set_option maxRecDepth 100000 in
theorem ae_50 : aent 50 = ((-2147483648, 2147483647), []) := by decide +kernel
set_option maxRecDepth 100000 in
theorem ae_51 : aent 51 = ((0, 64), []) := by decide +kernel
set_option maxRecDepth 100000 in
theorem ae_52 : aent 52 = ((0, 64), []) := by decide +kernel
set_option maxRecDepth 100000 in
theorem ae_53 : aent 53 = ((-2147483648, 2147483647), []) := by decide +kernel
set_option maxRecDepth 100000 in
theorem ag_54_2 : agam 54 2 = (0, 1) := by decide +kernel
set_option maxRecDepth 100000 in
theorem ag_54_3 : agam 54 3 = (0, 1) := by decide +kernel
set_option maxRecDepth 100000 in
theorem ag_55_2 : agam 55 2 = (0, 800) := by decide +kernel
set_option maxRecDepth 100000 in
theorem ag_55_3 : agam 55 3 = (0, 801) := by decide +kernel
set_option maxRecDepth 100000 in
theorem ag_55_4 : agam 55 4 = (-2147483648, 2147483647) := by decide +kernel
set_option maxRecDepth 100000 in
theorem ag_55_5 : agam 55 5 = (-2147483648, 2147483647) := by decide +kernel
set_option maxRecDepth 100000 in
theorem ag_55_6 : agam 55 6 = (-2147483648, 2147483647) := by decide +kernel
set_option maxRecDepth 100000 in
theorem ag_55_7 : agam 55 7 = (-2147483648, 2147483647) := by decide +kernel
set_option maxRecDepth 100000 in
theorem ag_55_8 : agam 55 8 = (-2147483648, 2147483647) := by decide +kernel
set_option maxRecDepth 100000 in
theorem ae_56 : aent 56 = ((-2147483648, 2147483647), []) := by decide +kernel
set_option maxRecDepth 100000 in
theorem ag_57_6 : agam 57 6 = (0, 12) := by decide +kernel
set_option maxRecDepth 100000 in
theorem ag_57_7 : agam 57 7 = (-2147483648, 2147483647) := by decide +kernel
set_option maxRecDepth 100000 in
theorem ag_57_8 : agam 57 8 = (-2147483648, 2147483647) := by decide +kernel
set_option maxRecDepth 100000 in
theorem ag_57_9 : agam 57 9 = (-2147483648, 2147483647) := by decide +kernel
set_option maxRecDepth 100000 in
theorem ag_57_10 : agam 57 10 = (-2147483648, 2147483647) := by decide +kernel
set_option maxRecDepth 100000 in
theorem ag_57_11 : agam 57 11 = (-1, 24) := by decide +kernel
set_option maxRecDepth 100000 in
theorem ag_57_12 : agam 57 12 = (-2147483648, 2147483647) := by decide +kernel
set_option maxRecDepth 100000 in
theorem ae_58 : aent 58 = ((-2147483648, 2147483647), []) := by decide +kernel
set_option maxRecDepth 100000 in
theorem ae_59 : aent 59 = ((-2147483648, 2147483647), []) := by decide +kernel
set_option maxRecDepth 100000 in
theorem ae_60 : aent 60 = ((-2147483648, 2147483647), []) := by decide +kernel
set_option maxRecDepth 100000 in
theorem ae_61 : aent 61 = ((-1, 5), []) := by decide +kernel
set_option maxRecDepth 100000 in
theorem ae_62 : aent 62 = ((0, 11), []) := by decide +kernel
set_option maxRecDepth 100000 in
theorem ae_63 : aent 63 = ((-2147483648, 2147483647), []) := by decide +kernel
set_option maxRecDepth 100000 in
theorem ag_64_6 : agam 64 6 = (0, 12) := by decide +kernel
set_option maxRecDepth 100000 in
theorem ag_64_7 : agam 64 7 = (-2147483648, 2147483647) := by decide +kernel
set_option maxRecDepth 100000 in
theorem ag_64_8 : agam 64 8 = (-2147483648, 2147483647) := by decide +kernel
set_option maxRecDepth 100000 in
theorem ag_64_9 : agam 64 9 = (-2147483648, 2147483647) := by decide +kernel
set_option maxRecDepth 100000 in
theorem ag_64_10 : agam 64 10 = (-2147483648, 2147483647) := by decide +kernel
set_option maxRecDepth 100000 in
theorem ag_64_11 : agam 64 11 = (-1, 24) := by decide +kernel
set_option maxRecDepth 100000 in
theorem ag_64_12 : agam 64 12 = (-2147483648, 2147483647) := by decide +kernel
set_option maxRecDepth 100000 in
theorem ae_65 : aent 65 = ((-2147483648, 2147483647), []) := by decide +kernel
set_option maxRecDepth 100000 in
theorem ae_66 : aent 66 = ((-2147483648, 2147483647), []) := by decide +kernel
set_option maxRecDepth 100000 in
theorem ae_67 : aent 67 = ((-2147483648, 2147483647), []) := by decide +kernel
set_option maxRecDepth 100000 in
theorem ae_68 : aent 68 = ((-1, 5), []) := by decide +kernel
set_option maxRecDepth 100000 in
theorem ae_69 : aent 69 = ((0, 11), []) := by decide +kernel
set_option maxRecDepth 100000 in
theorem ae_70 : aent 70 = ((-2147483648, 2147483647), []) := by decide +kernel
set_option maxRecDepth 100000 in
theorem ag_71_1 : agam 71 1 = (0, 24) := by decide +kernel
set_option maxRecDepth 100000 in
theorem ae_72 : aent 72 = ((-2147483648, 2147483647), []) := by decide +kernel
set_option maxRecDepth 100000 in
theorem ag_73_4 : agam 73 4 = (0, 64) := by decide +kernel
set_option maxRecDepth 100000 in
theorem ag_73_5 : agam 73 5 = (0, 1) := by decide +kernel
set_option maxRecDepth 100000 in
theorem ae_74 : aent 74 = ((-2147483648, 2147483647), []) := by decide +kernel
set_option maxRecDepth 100000 in
theorem ae_75 : aent 75 = ((-2147483648, 2147483647), []) := by decide +kernel
set_option maxRecDepth 100000 in
theorem ag_76_8 : agam 76 8 = (0, 24) := by decide +kernel
set_option maxRecDepth 100000 in
theorem ag_76_9 : agam 76 9 = (-2147483648, 2147483647) := by decide +kernel
set_option maxRecDepth 100000 in
theorem ag_76_10 : agam 76 10 = (0, 1) := by decide +kernel
set_option maxRecDepth 100000 in
theorem ae_77 : aent 77 = ((0, 8), []) := by decide +kernel
set_option maxRecDepth 100000 in
theorem ae_78 : aent 78 = ((-2147483648, 2147483647), []) := by decide +kernel
set_option maxRecDepth 100000 in
theorem ae_79 : aent 79 = ((-2147483648, 2147483647), []) := by decide +kernel
set_option maxRecDepth 100000 in
theorem ae_80 : aent 80 = ((-2147483648, 2147483647), []) := by decide +kernel
set_option maxRecDepth 100000 in
theorem ae_81 : aent 81 = ((-2147483648, 2147483647), []) := by decide +kernel
set_option maxRecDepth 100000 in
theorem ae_82 : aent 82 = ((-2147483648, 2147483647), []) := by decide +kernel
set_option maxRecDepth 100000 in
theorem ae_83 : aent 83 = ((-2147483648, 2147483647), []) := by decide +kernel
set_option maxRecDepth 100000 in
theorem ae_84 : aent 84 = ((-2147483648, 2147483647), []) := by decide +kernel
set_option maxRecDepth 100000 in
theorem ae_85 : aent 85 = ((-2147483648, 2147483647), []) := by decide +kernel
set_option maxRecDepth 100000 in
theorem ae_86 : aent 86 = ((-2147483648, 2147483647), []) := by decide +kernel
set_option maxRecDepth 100000 in
theorem ae_87 : aent 87 = ((-2147483648, 2147483647), []) := by decide +kernel
set_option maxRecDepth 100000 in
theorem ae_88 : aent 88 = ((-1, 2), []) := by decide +kernel
set_option maxRecDepth 100000 in
theorem ae_89 : aent 89 = ((-2147483648, 2147483647), []) := by decide +kernel
set_option maxRecDepth 100000 in
theorem ae_90 : aent 90 = ((-2147483648, 2147483647), []) := by decide +kernel
set_option maxRecDepth 100000 in
theorem ag_91_6 : agam 91 6 = (0, 4) := by decide +kernel
set_option maxRecDepth 100000 in
theorem ag_91_7 : agam 91 7 = (-2147483648, 2147483647) := by decide +kernel
set_option maxRecDepth 100000 in
theorem ag_91_8 : agam 91 8 = (-2147483648, 2147483647) := by decide +kernel
set_option maxRecDepth 100000 in
theorem ag_91_9 : agam 91 9 = (-2147483648, 2147483647) := by decide +kernel
set_option maxRecDepth 100000 in
theorem ae_92 : aent 92 = ((-2147483648, 2147483647), []) := by decide +kernel
set_option maxRecDepth 100000 in
theorem ae_93 : aent 93 = ((-2147483648, 2147483647), []) := by decide +kernel
set_option maxRecDepth 100000 in
theorem ae_94 : aent 94 = ((-2147483648, 2147483647), []) := by decide +kernel
set_option maxRecDepth 100000 in
theorem ag_95_0 : agam 95 0 = (-2147483648, 2147483647) := by decide +kernel
set_option maxRecDepth 100000 in
theorem ag_95_2 : agam 95 2 = (0, 800) := by decide +kernel
set_option maxRecDepth 100000 in
theorem ag_95_24 : agam 95 24 = (-2147483648, 2147483647) := by decide +kernel
set_option maxRecDepth 100000 in
theorem ag_95_25 : agam 95 25 = (-2147483648, 2147483647) := by decide +kernel
set_option maxRecDepth 100000 in
theorem ag_95_26 : agam 95 26 = (0, 800) := by decide +kernel
set_option maxRecDepth 100000 in
theorem ag_95_27 : agam 95 27 = (0, 802) := by decide +kernel
set_option maxRecDepth 100000 in
theorem ag_95_28 : agam 95 28 = (0, 802) := by decide +kernel
set_option maxRecDepth 100000 in
theorem ag_95_29 : agam 95 29 = (-2147483648, 2147483647) := by decide +kernel
set_option maxRecDepth 100000 in
theorem ag_95_30 : agam 95 30 = (-2147483648, 2147483647) := by decide +kernel
set_option maxRecDepth 100000 in
theorem ag_95_31 : agam 95 31 = (-2147483648, 2147483647) := by decide +kernel
set_option maxRecDepth 100000 in
theorem ag_95_32 : agam 95 32 = (-2147483648, 2147483647) := by decide +kernel
set_option maxRecDepth 100000 in
theorem ag_95_33 : agam 95 33 = (-2147483648, 2147483647) := by decide +kernel
set_option maxRecDepth 100000 in
theorem ag_95_34 : agam 95 34 = (-2147483648, 2147483647) := by decide +kernel
set_option maxRecDepth 100000 in
theorem ag_95_35 : agam 95 35 = (0, 8) := by decide +kernel
set_option maxRecDepth 100000 in
theorem ag_95_36 : agam 95 36 = (0, 64) := by decide +kernel
set_option maxRecDepth 100000 in
theorem ag_95_49 : agam 95 49 = (0, 1) := by decide +kernel
set_option maxRecDepth 100000 in
theorem ag_95_52 : agam 95 52 = (0, 64) := by decide +kernel
set_option maxRecDepth 100000 in
theorem ag_95_59 : agam 95 59 = (-1, 2) := by decide +kernel
set_option maxRecDepth 100000 in
theorem ag_95_60 : agam 95 60 = (-2147483648, 2147483647) := by decide +kernel
set_option maxRecDepth 100000 in
theorem ag_95_61 : agam 95 61 = (0, 24) := by decide +kernel
set_option maxRecDepth 100000 in
theorem ag_95_62 : agam 95 62 = (-1, 24) := by decide +kernel
set_option maxRecDepth 100000 in
theorem ag_95_68 : agam 95 68 = (-2147483648, 2147483647) := by decide +kernel
set_option maxRecDepth 100000 in
theorem ae_96 : aent 96 = ((0, 255), []) := by decide +kernel
set_option maxRecDepth 100000 in
theorem ag_97_0 : agam 97 0 = (0, 3) := by decide +kernel
set_option maxRecDepth 100000 in
theorem ag_97_1 : agam 97 1 = (0, 6) := by decide +kernel
set_option maxRecDepth 100000 in
theorem ag_97_2 : agam 97 2 = (0, 4) := by decide +kernel
set_option maxRecDepth 100000 in
theorem ag_97_3 : agam 97 3 = (0, 3) := by decide +kernel
set_option maxRecDepth 100000 in
theorem ag_97_6 : agam 97 6 = (0, 64) := by decide +kernel
set_option maxRecDepth 100000 in
theorem ag_97_7 : agam 97 7 = (0, 3) := by decide +kernel
set_option maxRecDepth 100000 in
theorem ag_97_8 : agam 97 8 = (0, 6) := by decide +kernel
set_option maxRecDepth 100000 in
theorem ag_97_9 : agam 97 9 = (0, 4) := by decide +kernel
set_option maxRecDepth 100000 in
theorem ag_97_10 : agam 97 10 = (0, 3) := by decide +kernel
set_option maxRecDepth 100000 in
theorem ag_97_13 : agam 97 13 = (0, 64) := by decide +kernel
set_option maxRecDepth 100000 in
theorem ae_98 : aent 98 = ((-2147483648, 2147483647), []) := by decide +kernel
set_option maxRecDepth 100000 in
theorem ae_99 : aent 99 = ((-2147483648, 2147483647), []) := by decide +kernel
set_option maxRecDepth 100000 in
theorem ae_100 : aent 100 = ((-2147483648, 2147483647), []) := by decide +kernel
set_option maxRecDepth 100000 in
theorem ae_101 : aent 101 = ((-2147483648, 2147483647), []) := by decide +kernel
set_option maxRecDepth 100000 in
theorem ae_102 : aent 102 = ((-2147483648, 2147483647), []) := by decide +kernel
set_option maxRecDepth 100000 in
theorem ae_103 : aent 103 = ((-2147483648, 2147483647), []) := by decide +kernel
set_option maxRecDepth 100000 in
theorem ae_104 : aent 104 = ((0, 1), []) := by decide +kernel
set_option maxRecDepth 100000 in
theorem ae_105 : aent 105 = ((-1, 2), []) := by decide +kernel
set_option maxRecDepth 100000 in
theorem ae_106 : aent 106 = ((0, 99), []) := by decide +kernel
set_option maxRecDepth 100000 in
theorem ae_107 : aent 107 = ((-2147483648, 2147483647), []) := by decide +kernel
set_option maxRecDepth 100000 in
theorem ae_108 : aent 108 = ((-2147483648, 2147483647), []) := by decide +kernel
set_option maxRecDepth 100000 in
theorem ae_109 : aent 109 = ((0, 3), []) := by decide +kernel
set_option maxRecDepth 100000 in
theorem ae_110 : aent 110 = ((0, 8), []) := by decide +kernel
set_option maxRecDepth 100000 in
theorem ae_111 : aent 111 = ((-2147483648, 2147483647), []) := by decide +kernel
set_option maxRecDepth 100000 in
theorem ae_112 : aent 112 = ((-2147483648, 2147483647), []) := by decide +kernel
set_option maxRecDepth 100000 in
theorem ae_113 : aent 113 = ((-2147483648, 2147483647), []) := by decide +kernel
set_option maxRecDepth 100000 in
theorem ae_114 : aent 114 = ((0, 64), []) := by decide +kernel
set_option maxRecDepth 100000 in
theorem ae_115 : aent 115 = ((0, 64), []) := by decide +kernel
set_option maxRecDepth 100000 in
theorem ae_116 : aent 116 = ((-2147483648, 2147483647), []) := by decide +kernel
set_option maxRecDepth 100000 in
theorem ae_117 : aent 117 = ((-2147483648, 2147483647), []) := by decide +kernel
set_option maxRecDepth 100000 in
theorem ae_118 : aent 118 = ((-2147483648, 2147483647), []) := by decide +kernel
set_option maxRecDepth 100000 in
theorem ae_119 : aent 119 = ((-2147483648, 2147483647), []) := by decide +kernel
set_option maxRecDepth 100000 in
theorem ae_120 : aent 120 = ((-2147483648, 2147483647), []) := by decide +kernel
set_option maxRecDepth 100000 in
theorem ae_121 : aent 121 = ((-2147483648, 2147483647), []) := by decide +kernel
set_option maxRecDepth 100000 in
theorem ae_122 : aent 122 = ((-2147483648, 2147483647), []) := by decide +kernel
set_option maxRecDepth 100000 in
theorem ae_123 : aent 123 = ((-2147483648, 2147483647), []) := by decide +kernel
set_option maxRecDepth 100000 in
theorem ae_124 : aent 124 = ((-2147483648, 2147483647), []) := by decide +kernel
set_option maxRecDepth 100000 in
theorem ae_125 : aent 125 = ((-2147483648, 2147483647), []) := by decide +kernel
set_option maxRecDepth 100000 in
theorem ae_126 : aent 126 = ((-1, 5), []) := by decide +kernel
set_option maxRecDepth 100000 in
theorem ae_127 : aent 127 = ((0, 12), []) := by decide +kernel
set_option maxRecDepth 100000 in
theorem ae_128 : aent 128 = ((0, 11), []) := by decide +kernel
set_option maxRecDepth 100000 in
theorem ae_129 : aent 129 = ((-2147483648, 2147483647), []) := by decide +kernel
set_option maxRecDepth 100000 in
theorem ae_130 : aent 130 = ((-2147483648, 2147483647), []) := by decide +kernel
set_option maxRecDepth 100000 in
theorem ae_131 : aent 131 = ((-2147483648, 2147483647), []) := by decide +kernel
set_option maxRecDepth 100000 in
theorem ae_132 : aent 132 = ((-2147483648, 2147483647), []) := by decide +kernel
set_option maxRecDepth 100000 in
theorem ae_133 : aent 133 = ((-2147483648, 2147483647), []) := by decide +kernel
set_option maxRecDepth 100000 in
theorem ae_134 : aent 134 = ((0, 999), []) := by decide +kernel
set_option maxRecDepth 100000 in
theorem ae_135 : aent 135 = ((0, 8), []) := by decide +kernel
set_option maxRecDepth 100000 in
theorem ae_136 : aent 136 = ((0, 6), []) := by decide +kernel
set_option maxRecDepth 100000 in
theorem ae_137 : aent 137 = ((-2147483648, 2147483647), []) := by decide +kernel
set_option maxRecDepth 100000 in
theorem ae_138 : aent 138 = ((-2147483648, 2147483647), []) := by decide +kernel
set_option maxRecDepth 100000 in
theorem ae_139 : aent 139 = ((-1, 23), []) := by decide +kernel
set_option maxRecDepth 100000 in
theorem ae_140 : aent 140 = ((0, 1), []) := by decide +kernel
set_option maxRecDepth 100000 in
theorem ae_141 : aent 141 = ((0, 5), []) := by decide +kernel
set_option maxRecDepth 100000 in
theorem ae_142 : aent 142 = ((-2147483648, 2147483647), []) := by decide +kernel
set_option maxRecDepth 100000 in
theorem ae_143 : aent 143 = ((-2147483648, 2147483647), []) := by decide +kernel
theorem w32c_m3 : w32 (-3) = (-3) := by decide +kernel
theorem w32c_m2 : w32 (-2) = (-2) := by decide +kernel
theorem w32c_m1 : w32 (-1) = (-1) := by decide +kernel
theorem w32c_0 : w32 0 = 0 := by decide +kernel
theorem w32c_1 : w32 1 = 1 := by decide +kernel
theorem w32c_2 : w32 2 = 2 := by decide +kernel
theorem w32c_3 : w32 3 = 3 := by decide +kernel
theorem w32c_4 : w32 4 = 4 := by decide +kernel
theorem w32c_5 : w32 5 = 5 := by decide +kernel
theorem w32c_6 : w32 6 = 6 := by decide +kernel
theorem w32c_7 : w32 7 = 7 := by decide +kernel
theorem w32c_8 : w32 8 = 8 := by decide +kernel
theorem w32c_9 : w32 9 = 9 := by decide +kernel
theorem w32c_10 : w32 10 = 10 := by decide +kernel
theorem w32c_11 : w32 11 = 11 := by decide +kernel
theorem w32c_12 : w32 12 = 12 := by decide +kernel
theorem w32c_13 : w32 13 = 13 := by decide +kernel
theorem w32c_14 : w32 14 = 14 := by decide +kernel
theorem w32c_15 : w32 15 = 15 := by decide +kernel
theorem w32c_16 : w32 16 = 16 := by decide +kernel
theorem w32c_17 : w32 17 = 17 := by decide +kernel
theorem w32c_18 : w32 18 = 18 := by decide +kernel
theorem w32c_19 : w32 19 = 19 := by decide +kernel
theorem w32c_20 : w32 20 = 20 := by decide +kernel
theorem w32c_21 : w32 21 = 21 := by decide +kernel
theorem w32c_22 : w32 22 = 22 := by decide +kernel
theorem w32c_23 : w32 23 = 23 := by decide +kernel
theorem w32c_24 : w32 24 = 24 := by decide +kernel
theorem w32c_25 : w32 25 = 25 := by decide +kernel
theorem w32c_26 : w32 26 = 26 := by decide +kernel
theorem w32c_27 : w32 27 = 27 := by decide +kernel
theorem w32c_28 : w32 28 = 28 := by decide +kernel
theorem w32c_29 : w32 29 = 29 := by decide +kernel
theorem w32c_30 : w32 30 = 30 := by decide +kernel
theorem w32c_31 : w32 31 = 31 := by decide +kernel
theorem w32c_32 : w32 32 = 32 := by decide +kernel
theorem w32c_33 : w32 33 = 33 := by decide +kernel
theorem w32c_34 : w32 34 = 34 := by decide +kernel
theorem w32c_35 : w32 35 = 35 := by decide +kernel
theorem w32c_36 : w32 36 = 36 := by decide +kernel
theorem w32c_37 : w32 37 = 37 := by decide +kernel
theorem w32c_38 : w32 38 = 38 := by decide +kernel
theorem w32c_39 : w32 39 = 39 := by decide +kernel
theorem w32c_40 : w32 40 = 40 := by decide +kernel
theorem w32c_41 : w32 41 = 41 := by decide +kernel
theorem w32c_42 : w32 42 = 42 := by decide +kernel
theorem w32c_43 : w32 43 = 43 := by decide +kernel
theorem w32c_44 : w32 44 = 44 := by decide +kernel
theorem w32c_45 : w32 45 = 45 := by decide +kernel
theorem w32c_46 : w32 46 = 46 := by decide +kernel
theorem w32c_47 : w32 47 = 47 := by decide +kernel
theorem w32c_48 : w32 48 = 48 := by decide +kernel
theorem w32c_49 : w32 49 = 49 := by decide +kernel
theorem w32c_50 : w32 50 = 50 := by decide +kernel
theorem w32c_51 : w32 51 = 51 := by decide +kernel
theorem w32c_52 : w32 52 = 52 := by decide +kernel
theorem w32c_53 : w32 53 = 53 := by decide +kernel
theorem w32c_54 : w32 54 = 54 := by decide +kernel
theorem w32c_55 : w32 55 = 55 := by decide +kernel
theorem w32c_56 : w32 56 = 56 := by decide +kernel
theorem w32c_57 : w32 57 = 57 := by decide +kernel
theorem w32c_58 : w32 58 = 58 := by decide +kernel
theorem w32c_59 : w32 59 = 59 := by decide +kernel
theorem w32c_60 : w32 60 = 60 := by decide +kernel
theorem w32c_61 : w32 61 = 61 := by decide +kernel
theorem w32c_62 : w32 62 = 62 := by decide +kernel
theorem w32c_63 : w32 63 = 63 := by decide +kernel
theorem w32c_64 : w32 64 = 64 := by decide +kernel
theorem w32c_65 : w32 65 = 65 := by decide +kernel
theorem w32c_66 : w32 66 = 66 := by decide +kernel
theorem w32c_67 : w32 67 = 67 := by decide +kernel
theorem w32c_68 : w32 68 = 68 := by decide +kernel
theorem w32c_69 : w32 69 = 69 := by decide +kernel
theorem w32c_70 : w32 70 = 70 := by decide +kernel
theorem w32c_71 : w32 71 = 71 := by decide +kernel
theorem w32c_72 : w32 72 = 72 := by decide +kernel
theorem w32c_73 : w32 73 = 73 := by decide +kernel
theorem w32c_74 : w32 74 = 74 := by decide +kernel
theorem w32c_75 : w32 75 = 75 := by decide +kernel
theorem w32c_76 : w32 76 = 76 := by decide +kernel
theorem w32c_77 : w32 77 = 77 := by decide +kernel
theorem w32c_78 : w32 78 = 78 := by decide +kernel
theorem w32c_79 : w32 79 = 79 := by decide +kernel
theorem w32c_80 : w32 80 = 80 := by decide +kernel
theorem w32c_81 : w32 81 = 81 := by decide +kernel
theorem w32c_82 : w32 82 = 82 := by decide +kernel
theorem w32c_83 : w32 83 = 83 := by decide +kernel
theorem w32c_84 : w32 84 = 84 := by decide +kernel
theorem w32c_85 : w32 85 = 85 := by decide +kernel
theorem w32c_86 : w32 86 = 86 := by decide +kernel
theorem w32c_87 : w32 87 = 87 := by decide +kernel
theorem w32c_88 : w32 88 = 88 := by decide +kernel
theorem w32c_89 : w32 89 = 89 := by decide +kernel
theorem w32c_90 : w32 90 = 90 := by decide +kernel
theorem w32c_91 : w32 91 = 91 := by decide +kernel
theorem w32c_92 : w32 92 = 92 := by decide +kernel
theorem w32c_93 : w32 93 = 93 := by decide +kernel
theorem w32c_94 : w32 94 = 94 := by decide +kernel
theorem w32c_95 : w32 95 = 95 := by decide +kernel
theorem w32c_96 : w32 96 = 96 := by decide +kernel
theorem w32c_97 : w32 97 = 97 := by decide +kernel
theorem w32c_98 : w32 98 = 98 := by decide +kernel
theorem w32c_99 : w32 99 = 99 := by decide +kernel
theorem w32c_100 : w32 100 = 100 := by decide +kernel
theorem w32c_101 : w32 101 = 101 := by decide +kernel
theorem w32c_102 : w32 102 = 102 := by decide +kernel
theorem w32c_103 : w32 103 = 103 := by decide +kernel
theorem w32c_104 : w32 104 = 104 := by decide +kernel
theorem w32c_105 : w32 105 = 105 := by decide +kernel
theorem w32c_106 : w32 106 = 106 := by decide +kernel
theorem w32c_107 : w32 107 = 107 := by decide +kernel
theorem w32c_108 : w32 108 = 108 := by decide +kernel
theorem w32c_109 : w32 109 = 109 := by decide +kernel
theorem w32c_110 : w32 110 = 110 := by decide +kernel
theorem w32c_111 : w32 111 = 111 := by decide +kernel
theorem w32c_112 : w32 112 = 112 := by decide +kernel
theorem w32c_113 : w32 113 = 113 := by decide +kernel
theorem w32c_114 : w32 114 = 114 := by decide +kernel
theorem w32c_115 : w32 115 = 115 := by decide +kernel
theorem w32c_116 : w32 116 = 116 := by decide +kernel
theorem w32c_117 : w32 117 = 117 := by decide +kernel
theorem w32c_118 : w32 118 = 118 := by decide +kernel
theorem w32c_119 : w32 119 = 119 := by decide +kernel
theorem w32c_120 : w32 120 = 120 := by decide +kernel
theorem w32c_121 : w32 121 = 121 := by decide +kernel
theorem w32c_122 : w32 122 = 122 := by decide +kernel
theorem w32c_123 : w32 123 = 123 := by decide +kernel
theorem w32c_124 : w32 124 = 124 := by decide +kernel
theorem w32c_125 : w32 125 = 125 := by decide +kernel
theorem w32c_126 : w32 126 = 126 := by decide +kernel
theorem w32c_127 : w32 127 = 127 := by decide +kernel
theorem w32c_128 : w32 128 = 128 := by decide +kernel
theorem w32c_129 : w32 129 = 129 := by decide +kernel
theorem w32c_255 : w32 255 = 255 := by decide +kernel
theorem w32c_256 : w32 256 = 256 := by decide +kernel
theorem w32c_257 : w32 257 = 257 := by decide +kernel
theorem w32c_258 : w32 258 = 258 := by decide +kernel
theorem w32c_260 : w32 260 = 260 := by decide +kernel
theorem w32c_261 : w32 261 = 261 := by decide +kernel
theorem w32c_262 : w32 262 = 262 := by decide +kernel
theorem w32c_343 : w32 343 = 343 := by decide +kernel
theorem w32c_780 : w32 780 = 780 := by decide +kernel
theorem w32c_800 : w32 800 = 800 := by decide +kernel
theorem w32c_801 : w32 801 = 801 := by decide +kernel
theorem w32c_802 : w32 802 = 802 := by decide +kernel
theorem w32c_999 : w32 999 = 999 := by decide +kernel
theorem w32c_1000 : w32 1000 = 1000 := by decide +kernel
theorem w32c_9999 : w32 9999 = 9999 := by decide +kernel
theorem w32c_65536 : w32 65536 = 65536 := by decide +kernel
theorem w32c_99999 : w32 99999 = 99999 := by decide +kernel
theorem w32c_1000000 : w32 1000000 = 1000000 := by decide +kernel
end
section
def zc_153 : List Nat := [6]
theorem s_153_0 {E : yE} {n d : Nat} {mem : yMem} {Post : Option yV → yMem → Prop} {st : List yV} {r1 r2 r3 r4 r5 r6 r7 r8 r9 : Option yV} {x : Int} : zvc E (n + 1) zc_153 d xm_153 0 [some (4, x), r1, r2, r3, r4, r5, r6, r7, r8, r9] (st) mem Post = (zvc E n zc_153 d xm_153 1 [some (4, x), r1, r2, r3, r4, r5, r6, r7, r8, r9] ((4, x) :: st) mem Post) := zrf rfl
theorem s_153_1n {E : yE} {n d : Nat} {mem : yMem} {Post : Option yV → yMem → Prop} {st : List yV} {r0 r1 r2 r4 r5 r6 r7 r8 r9 : Option yV} {x : Int} : zvc E (n + 1) zc_153 d xm_153 1 [r0, r1, r2, none, r4, r5, r6, r7, r8, r9] ((4, x) :: st) mem Post = (zvc E n zc_153 d xm_153 3 [r0, r1, r2, none, some (4, x), none, r6, r7, r8, r9] (st) mem Post) := zrf rfl
theorem s_153_1i {E : yE} {n d : Nat} {mem : yMem} {Post : Option yV → yMem → Prop} {st : List yV} {r0 r1 r2 r4 r5 r6 r7 r8 r9 : Option yV} {x w : Int} : zvc E (n + 1) zc_153 d xm_153 1 [r0, r1, r2, some (0, w), r4, r5, r6, r7, r8, r9] ((4, x) :: st) mem Post = (zvc E n zc_153 d xm_153 3 [r0, r1, r2, some (0, w), some (4, x), none, r6, r7, r8, r9] (st) mem Post) := zrf rfl
theorem s_153_1p {E : yE} {n d : Nat} {mem : yMem} {Post : Option yV → yMem → Prop} {st : List yV} {r0 r1 r2 r4 r5 r6 r7 r8 r9 : Option yV} {x w : Int} : zvc E (n + 1) zc_153 d xm_153 1 [r0, r1, r2, some (1, w), r4, r5, r6, r7, r8, r9] ((4, x) :: st) mem Post = (zvc E n zc_153 d xm_153 3 [r0, r1, r2, some (1, w), some (4, x), none, r6, r7, r8, r9] (st) mem Post) := zrf rfl
theorem s_153_1l {E : yE} {n d : Nat} {mem : yMem} {Post : Option yV → yMem → Prop} {st : List yV} {r0 r1 r2 r4 r5 r6 r7 r8 r9 : Option yV} {x w : Int} : zvc E (n + 1) zc_153 d xm_153 1 [r0, r1, r2, some (4, w), r4, r5, r6, r7, r8, r9] ((4, x) :: st) mem Post = (zvc E n zc_153 d xm_153 3 [r0, r1, r2, none, some (4, x), none, r6, r7, r8, r9] (st) mem Post) := zrf rfl
theorem s_153_1j {E : yE} {n d : Nat} {mem : yMem} {Post : Option yV → yMem → Prop} {st : List yV} {r0 r1 r2 r3 r4 r5 r6 r7 r8 r9 : Option yV} {x : Int} : zvc E (n + 1) zc_153 d xm_153 1 [r0, r1, r2, r3, r4, r5, r6, r7, r8, r9] ((4, x) :: st) mem Post = (zvc E n zc_153 d xm_153 3 [r0, r1, r2, znl r3, some (4, x), none, r6, r7, r8, r9] (st) mem Post) := zrf rfl
theorem s_153_3 {E : yE} {n d : Nat} {mem : yMem} {Post : Option yV → yMem → Prop} {st : List yV} {r0 r1 r3 r4 r5 r6 r7 r8 r9 : Option yV} {x : Int} : zvc E (n + 1) zc_153 d xm_153 3 [r0, r1, some (4, x), r3, r4, r5, r6, r7, r8, r9] (st) mem Post = (zvc E n zc_153 d xm_153 4 [r0, r1, some (4, x), r3, r4, r5, r6, r7, r8, r9] ((4, x) :: st) mem Post) := zrf rfl
theorem s_153_4n {E : yE} {n d : Nat} {mem : yMem} {Post : Option yV → yMem → Prop} {st : List yV} {r0 r1 r2 r3 r4 r6 r7 r8 r9 : Option yV} {x : Int} : zvc E (n + 1) zc_153 d xm_153 4 [r0, r1, r2, r3, r4, none, r6, r7, r8, r9] ((4, x) :: st) mem Post = (zvc E n zc_153 d xm_153 6 [r0, r1, r2, r3, r4, none, some (4, x), none, r8, r9] (st) mem Post) := zrf rfl
theorem s_153_4i {E : yE} {n d : Nat} {mem : yMem} {Post : Option yV → yMem → Prop} {st : List yV} {r0 r1 r2 r3 r4 r6 r7 r8 r9 : Option yV} {x w : Int} : zvc E (n + 1) zc_153 d xm_153 4 [r0, r1, r2, r3, r4, some (0, w), r6, r7, r8, r9] ((4, x) :: st) mem Post = (zvc E n zc_153 d xm_153 6 [r0, r1, r2, r3, r4, some (0, w), some (4, x), none, r8, r9] (st) mem Post) := zrf rfl
theorem s_153_4p {E : yE} {n d : Nat} {mem : yMem} {Post : Option yV → yMem → Prop} {st : List yV} {r0 r1 r2 r3 r4 r6 r7 r8 r9 : Option yV} {x w : Int} : zvc E (n + 1) zc_153 d xm_153 4 [r0, r1, r2, r3, r4, some (1, w), r6, r7, r8, r9] ((4, x) :: st) mem Post = (zvc E n zc_153 d xm_153 6 [r0, r1, r2, r3, r4, some (1, w), some (4, x), none, r8, r9] (st) mem Post) := zrf rfl
theorem s_153_4l {E : yE} {n d : Nat} {mem : yMem} {Post : Option yV → yMem → Prop} {st : List yV} {r0 r1 r2 r3 r4 r6 r7 r8 r9 : Option yV} {x w : Int} : zvc E (n + 1) zc_153 d xm_153 4 [r0, r1, r2, r3, r4, some (4, w), r6, r7, r8, r9] ((4, x) :: st) mem Post = (zvc E n zc_153 d xm_153 6 [r0, r1, r2, r3, r4, none, some (4, x), none, r8, r9] (st) mem Post) := zrf rfl
theorem s_153_4j {E : yE} {n d : Nat} {mem : yMem} {Post : Option yV → yMem → Prop} {st : List yV} {r0 r1 r2 r3 r4 r5 r6 r7 r8 r9 : Option yV} {x : Int} : zvc E (n + 1) zc_153 d xm_153 4 [r0, r1, r2, r3, r4, r5, r6, r7, r8, r9] ((4, x) :: st) mem Post = (zvc E n zc_153 d xm_153 6 [r0, r1, r2, r3, r4, znl r5, some (4, x), none, r8, r9] (st) mem Post) := zrf rfl
theorem g_153_6 {E : yE} {n d : Nat} {mem : yMem} {Post : Option yV → yMem → Prop} {st : List yV} {r0 r1 r2 r3 r4 r5 r7 r8 r9 : Option yV} {x : Int} : zgo E n zc_153 d xm_153 6 [r0, r1, r2, r3, r4, r5, some (4, x), r7, r8, r9] (st) mem Post = (zvc E n zc_153 d xm_153 8 [r0, r1, r2, r3, r4, r5, some (4, x), r7, r8, r9] ((4, x) :: st) mem Post) := zrf rfl
theorem k_153_6 {E : yE} {n d : Nat} {mem : yMem} {Post : Option yV → yMem → Prop} {st : List yV} {rg : zR} : zvc E (n + 1) zc_153 d xm_153 6 rg st mem Post = zG E d xm_153 6 rg st mem Post := zrf rfl
theorem s_153_8 {E : yE} {n d : Nat} {mem : yMem} {Post : Option yV → yMem → Prop} {st : List yV} {r0 r1 r2 r3 r4 r5 r6 r7 r8 r9 : Option yV} : zvc E (n + 1) zc_153 d xm_153 8 [r0, r1, r2, r3, r4, r5, r6, r7, r8, r9] (st) mem Post = (zvc E n zc_153 d xm_153 9 [r0, r1, r2, r3, r4, r5, r6, r7, r8, r9] ((4, 0) :: st) mem Post) := zrf rfl
theorem s_153_9 {E : yE} {n d : Nat} {mem : yMem} {Post : Option yV → yMem → Prop} {st : List yV} {r0 r1 r2 r3 r4 r5 r6 r7 r8 r9 : Option yV} {x y : Int} : zvc E (n + 1) zc_153 d xm_153 9 [r0, r1, r2, r3, r4, r5, r6, r7, r8, r9] ((4, y) :: (4, x) :: st) mem Post = (zvc E n zc_153 d xm_153 10 [r0, r1, r2, r3, r4, r5, r6, r7, r8, r9] ((0, ycmp x y) :: st) mem Post) := zrf rfl
theorem s_153_10 {E : yE} {n d : Nat} {mem : yMem} {Post : Option yV → yMem → Prop} {st : List yV} {r0 r1 r2 r3 r4 r5 r6 r7 r8 r9 : Option yV} {x : Int} : zvc E (n + 1) zc_153 d xm_153 10 [r0, r1, r2, r3, r4, r5, r6, r7, r8, r9] ((0, x) :: st) mem Post = ((w32 x = w32 0 → zvc E n zc_153 d xm_153 31 [r0, r1, r2, r3, r4, r5, r6, r7, r8, r9] (st) mem Post) ∧ (¬ (w32 x = w32 0) → zvc E n zc_153 d xm_153 13 [r0, r1, r2, r3, r4, r5, r6, r7, r8, r9] (st) mem Post)) := zrf rfl
theorem s_153_13 {E : yE} {n d : Nat} {mem : yMem} {Post : Option yV → yMem → Prop} {st : List yV} {r0 r1 r2 r3 r5 r6 r7 r8 r9 : Option yV} {x : Int} : zvc E (n + 1) zc_153 d xm_153 13 [r0, r1, r2, r3, some (4, x), r5, r6, r7, r8, r9] (st) mem Post = (zvc E n zc_153 d xm_153 15 [r0, r1, r2, r3, some (4, x), r5, r6, r7, r8, r9] ((4, x) :: st) mem Post) := zrf rfl
theorem s_153_15 {E : yE} {n d : Nat} {mem : yMem} {Post : Option yV → yMem → Prop} {st : List yV} {r0 r1 r2 r3 r4 r5 r7 r8 r9 : Option yV} {x : Int} : zvc E (n + 1) zc_153 d xm_153 15 [r0, r1, r2, r3, r4, r5, some (4, x), r7, r8, r9] (st) mem Post = (zvc E n zc_153 d xm_153 17 [r0, r1, r2, r3, r4, r5, some (4, x), r7, r8, r9] ((4, x) :: st) mem Post) := zrf rfl
theorem s_153_17 {E : yE} {n d : Nat} {mem : yMem} {Post : Option yV → yMem → Prop} {st : List yV} {r0 r1 r2 r3 r4 r5 r6 r7 r8 r9 : Option yV} {x y : Int} : zvc E (n + 1) zc_153 d xm_153 17 [r0, r1, r2, r3, r4, r5, r6, r7, r8, r9] ((4, y) :: (4, x) :: st) mem Post = (¬ w64 y = 0 ∧ zvc E n zc_153 d xm_153 18 [r0, r1, r2, r3, r4, r5, r6, r7, r8, r9] ((4, ylbin 10 x y) :: st) mem Post) := zrf rfl
theorem s_153_18n {E : yE} {n d : Nat} {mem : yMem} {Post : Option yV → yMem → Prop} {st : List yV} {r0 r1 r2 r3 r4 r5 r6 r8 r9 : Option yV} {x : Int} : zvc E (n + 1) zc_153 d xm_153 18 [r0, r1, r2, r3, r4, r5, r6, none, r8, r9] ((4, x) :: st) mem Post = (zvc E n zc_153 d xm_153 20 [r0, r1, r2, r3, r4, r5, r6, none, some (4, x), none] (st) mem Post) := zrf rfl
theorem s_153_18i {E : yE} {n d : Nat} {mem : yMem} {Post : Option yV → yMem → Prop} {st : List yV} {r0 r1 r2 r3 r4 r5 r6 r8 r9 : Option yV} {x w : Int} : zvc E (n + 1) zc_153 d xm_153 18 [r0, r1, r2, r3, r4, r5, r6, some (0, w), r8, r9] ((4, x) :: st) mem Post = (zvc E n zc_153 d xm_153 20 [r0, r1, r2, r3, r4, r5, r6, some (0, w), some (4, x), none] (st) mem Post) := zrf rfl
theorem s_153_18p {E : yE} {n d : Nat} {mem : yMem} {Post : Option yV → yMem → Prop} {st : List yV} {r0 r1 r2 r3 r4 r5 r6 r8 r9 : Option yV} {x w : Int} : zvc E (n + 1) zc_153 d xm_153 18 [r0, r1, r2, r3, r4, r5, r6, some (1, w), r8, r9] ((4, x) :: st) mem Post = (zvc E n zc_153 d xm_153 20 [r0, r1, r2, r3, r4, r5, r6, some (1, w), some (4, x), none] (st) mem Post) := zrf rfl
theorem s_153_18l {E : yE} {n d : Nat} {mem : yMem} {Post : Option yV → yMem → Prop} {st : List yV} {r0 r1 r2 r3 r4 r5 r6 r8 r9 : Option yV} {x w : Int} : zvc E (n + 1) zc_153 d xm_153 18 [r0, r1, r2, r3, r4, r5, r6, some (4, w), r8, r9] ((4, x) :: st) mem Post = (zvc E n zc_153 d xm_153 20 [r0, r1, r2, r3, r4, r5, r6, none, some (4, x), none] (st) mem Post) := zrf rfl
theorem s_153_18j {E : yE} {n d : Nat} {mem : yMem} {Post : Option yV → yMem → Prop} {st : List yV} {r0 r1 r2 r3 r4 r5 r6 r7 r8 r9 : Option yV} {x : Int} : zvc E (n + 1) zc_153 d xm_153 18 [r0, r1, r2, r3, r4, r5, r6, r7, r8, r9] ((4, x) :: st) mem Post = (zvc E n zc_153 d xm_153 20 [r0, r1, r2, r3, r4, r5, r6, znl r7, some (4, x), none] (st) mem Post) := zrf rfl
theorem s_153_20 {E : yE} {n d : Nat} {mem : yMem} {Post : Option yV → yMem → Prop} {st : List yV} {r0 r1 r2 r3 r4 r5 r7 r8 r9 : Option yV} {x : Int} : zvc E (n + 1) zc_153 d xm_153 20 [r0, r1, r2, r3, r4, r5, some (4, x), r7, r8, r9] (st) mem Post = (zvc E n zc_153 d xm_153 22 [r0, r1, r2, r3, r4, r5, some (4, x), r7, r8, r9] ((4, x) :: st) mem Post) := zrf rfl
theorem s_153_22n {E : yE} {n d : Nat} {mem : yMem} {Post : Option yV → yMem → Prop} {st : List yV} {r0 r1 r2 r4 r5 r6 r7 r8 r9 : Option yV} {x : Int} : zvc E (n + 1) zc_153 d xm_153 22 [r0, r1, r2, none, r4, r5, r6, r7, r8, r9] ((4, x) :: st) mem Post = (zvc E n zc_153 d xm_153 24 [r0, r1, r2, none, some (4, x), none, r6, r7, r8, r9] (st) mem Post) := zrf rfl
theorem s_153_22i {E : yE} {n d : Nat} {mem : yMem} {Post : Option yV → yMem → Prop} {st : List yV} {r0 r1 r2 r4 r5 r6 r7 r8 r9 : Option yV} {x w : Int} : zvc E (n + 1) zc_153 d xm_153 22 [r0, r1, r2, some (0, w), r4, r5, r6, r7, r8, r9] ((4, x) :: st) mem Post = (zvc E n zc_153 d xm_153 24 [r0, r1, r2, some (0, w), some (4, x), none, r6, r7, r8, r9] (st) mem Post) := zrf rfl
theorem s_153_22p {E : yE} {n d : Nat} {mem : yMem} {Post : Option yV → yMem → Prop} {st : List yV} {r0 r1 r2 r4 r5 r6 r7 r8 r9 : Option yV} {x w : Int} : zvc E (n + 1) zc_153 d xm_153 22 [r0, r1, r2, some (1, w), r4, r5, r6, r7, r8, r9] ((4, x) :: st) mem Post = (zvc E n zc_153 d xm_153 24 [r0, r1, r2, some (1, w), some (4, x), none, r6, r7, r8, r9] (st) mem Post) := zrf rfl
theorem s_153_22l {E : yE} {n d : Nat} {mem : yMem} {Post : Option yV → yMem → Prop} {st : List yV} {r0 r1 r2 r4 r5 r6 r7 r8 r9 : Option yV} {x w : Int} : zvc E (n + 1) zc_153 d xm_153 22 [r0, r1, r2, some (4, w), r4, r5, r6, r7, r8, r9] ((4, x) :: st) mem Post = (zvc E n zc_153 d xm_153 24 [r0, r1, r2, none, some (4, x), none, r6, r7, r8, r9] (st) mem Post) := zrf rfl
theorem s_153_22j {E : yE} {n d : Nat} {mem : yMem} {Post : Option yV → yMem → Prop} {st : List yV} {r0 r1 r2 r3 r4 r5 r6 r7 r8 r9 : Option yV} {x : Int} : zvc E (n + 1) zc_153 d xm_153 22 [r0, r1, r2, r3, r4, r5, r6, r7, r8, r9] ((4, x) :: st) mem Post = (zvc E n zc_153 d xm_153 24 [r0, r1, r2, znl r3, some (4, x), none, r6, r7, r8, r9] (st) mem Post) := zrf rfl
theorem s_153_24 {E : yE} {n d : Nat} {mem : yMem} {Post : Option yV → yMem → Prop} {st : List yV} {r0 r1 r2 r3 r4 r5 r6 r7 r9 : Option yV} {x : Int} : zvc E (n + 1) zc_153 d xm_153 24 [r0, r1, r2, r3, r4, r5, r6, r7, some (4, x), r9] (st) mem Post = (zvc E n zc_153 d xm_153 26 [r0, r1, r2, r3, r4, r5, r6, r7, some (4, x), r9] ((4, x) :: st) mem Post) := zrf rfl
theorem s_153_26n {E : yE} {n d : Nat} {mem : yMem} {Post : Option yV → yMem → Prop} {st : List yV} {r0 r1 r2 r3 r4 r6 r7 r8 r9 : Option yV} {x : Int} : zvc E (n + 1) zc_153 d xm_153 26 [r0, r1, r2, r3, r4, none, r6, r7, r8, r9] ((4, x) :: st) mem Post = (zvc E n zc_153 d xm_153 28 [r0, r1, r2, r3, r4, none, some (4, x), none, r8, r9] (st) mem Post) := zrf rfl
theorem s_153_26i {E : yE} {n d : Nat} {mem : yMem} {Post : Option yV → yMem → Prop} {st : List yV} {r0 r1 r2 r3 r4 r6 r7 r8 r9 : Option yV} {x w : Int} : zvc E (n + 1) zc_153 d xm_153 26 [r0, r1, r2, r3, r4, some (0, w), r6, r7, r8, r9] ((4, x) :: st) mem Post = (zvc E n zc_153 d xm_153 28 [r0, r1, r2, r3, r4, some (0, w), some (4, x), none, r8, r9] (st) mem Post) := zrf rfl
theorem s_153_26p {E : yE} {n d : Nat} {mem : yMem} {Post : Option yV → yMem → Prop} {st : List yV} {r0 r1 r2 r3 r4 r6 r7 r8 r9 : Option yV} {x w : Int} : zvc E (n + 1) zc_153 d xm_153 26 [r0, r1, r2, r3, r4, some (1, w), r6, r7, r8, r9] ((4, x) :: st) mem Post = (zvc E n zc_153 d xm_153 28 [r0, r1, r2, r3, r4, some (1, w), some (4, x), none, r8, r9] (st) mem Post) := zrf rfl
theorem s_153_26l {E : yE} {n d : Nat} {mem : yMem} {Post : Option yV → yMem → Prop} {st : List yV} {r0 r1 r2 r3 r4 r6 r7 r8 r9 : Option yV} {x w : Int} : zvc E (n + 1) zc_153 d xm_153 26 [r0, r1, r2, r3, r4, some (4, w), r6, r7, r8, r9] ((4, x) :: st) mem Post = (zvc E n zc_153 d xm_153 28 [r0, r1, r2, r3, r4, none, some (4, x), none, r8, r9] (st) mem Post) := zrf rfl
theorem s_153_26j {E : yE} {n d : Nat} {mem : yMem} {Post : Option yV → yMem → Prop} {st : List yV} {r0 r1 r2 r3 r4 r5 r6 r7 r8 r9 : Option yV} {x : Int} : zvc E (n + 1) zc_153 d xm_153 26 [r0, r1, r2, r3, r4, r5, r6, r7, r8, r9] ((4, x) :: st) mem Post = (zvc E n zc_153 d xm_153 28 [r0, r1, r2, r3, r4, znl r5, some (4, x), none, r8, r9] (st) mem Post) := zrf rfl
theorem s_153_28 {E : yE} {n d : Nat} {mem : yMem} {Post : Option yV → yMem → Prop} {st : List yV} {r0 r1 r2 r3 r4 r5 r6 r7 r8 r9 : Option yV} : zvc E (n + 1) zc_153 d xm_153 28 [r0, r1, r2, r3, r4, r5, r6, r7, r8, r9] (st) mem Post = (zvc E n zc_153 d xm_153 6 [r0, r1, r2, r3, r4, r5, r6, r7, r8, r9] (st) mem Post) := zrf rfl
theorem s_153_31 {E : yE} {n d : Nat} {mem : yMem} {Post : Option yV → yMem → Prop} {st : List yV} {r0 r1 r2 r3 r5 r6 r7 r8 r9 : Option yV} {x : Int} : zvc E (n + 1) zc_153 d xm_153 31 [r0, r1, r2, r3, some (4, x), r5, r6, r7, r8, r9] (st) mem Post = (zvc E n zc_153 d xm_153 33 [r0, r1, r2, r3, some (4, x), r5, r6, r7, r8, r9] ((4, x) :: st) mem Post) := zrf rfl
theorem s_153_33 {E : yE} {n d : Nat} {mem : yMem} {Post : Option yV → yMem → Prop} {r0 r1 r2 r3 r4 r5 r6 r7 r8 r9 : Option yV} {x : Int} : zvc E (n + 1) zc_153 d xm_153 33 [r0, r1, r2, r3, r4, r5, r6, r7, r8, r9] ([(4, x)]) mem Post = (Post (some (4, x)) mem) := zrf rfl
theorem e_153 {E : yE} {d : Nat} {mem : yMem} {Q : Option yV → yMem → Prop} {a0 a1 : Int} (h : zG E d xm_153 0 [some (4, a0), none, some (4, a1), none, none, none, none, none, none, none] [] mem Q) : yCon E (d + 1) xm_153 [(4, a0), (4, a1)] mem Q := zcon_of xmo_153 (Nat.le_of_ble_eq_true rfl) h

theorem lI_div {x y : Int} (hx : 0 ≤ x) (hx2 : x < 9223372036854775808) (hy : 0 < y) (hy2 : y < 9223372036854775808) : lI x / lI y = lI (x / y) := by
  have e1 : (lI x).toInt = x := w64_of (by omega) hx2
  have e2 : (lI y).toInt = y := w64_of (by omega) hy2
  have h1 : 0 ≤ x / y := Int.ediv_nonneg hx (by omega)
  have h2 : x / y ≤ x := Int.ediv_le_self _ hx
  apply Int64.toInt_inj.mp
  rw [Int64.toInt_div, e1, e2, Int.tdiv_eq_ediv_of_nonneg hx]
  have e3 : (lI (x / y)).toInt = x / y := w64_of (by omega) (by omega)
  rw [e3]
  exact Int.bmod_eq_of_le (by omega) (by omega)
theorem ylb10 {x y : Int} (hx : 0 ≤ x) (hx2 : x < 9223372036854775808) (hy : 0 < y) (hy2 : y < 9223372036854775808) : ylbin 10 x y = x % y := by
  have h1 := Int.emod_nonneg x (show y ≠ 0 by omega)
  have h2 := Int.emod_lt_of_pos x hy
  show (lI x - lI x / lI y * lI y).toInt = x % y
  rw [lI_div hx hx2 hy hy2, show lI (x / y) * lI y = lI (x / y * y) from (Int64.ofInt_mul _ _).symm, show lI x - lI (x / y * y) = lI (x - x / y * y) from (Int64.ofInt_sub _ _).symm]
  have e : x - x / y * y = x % y := by rw [Int.emod_def, Int.mul_comm]
  rw [e]
  exact w64_of (by omega) (by omega)
theorem ylb9 {x y : Int} (hx : 0 ≤ x) (hx2 : x < 9223372036854775808) (hy : 0 < y) (hy2 : y < 9223372036854775808) : ylbin 9 x y = x / y := by
  have h1 : 0 ≤ x / y := Int.ediv_nonneg hx (by omega)
  have h2 : x / y ≤ x := Int.ediv_le_self _ hx
  show (lI x / lI y).toInt = x / y
  rw [lI_div hx hx2 hy hy2]
  exact w64_of (by omega) (by omega)
theorem ycmp_0 {y : Int} (h0 : 0 ≤ y) (h1 : y < 9223372036854775808) : w32 (ycmp y 0) = 0 ↔ y = 0 := by
  have e1 : w64 y = y := w64_of (by omega) h1
  have e2 : w64 0 = 0 := by decide
  unfold ycmp
  rw [e1, e2]
  by_cases h : 0 < y
  · rw [if_pos h, show w32 1 = 1 by decide]; omega
  · rw [if_neg h, if_pos (by omega), show w32 0 = 0 by decide]; omega
theorem gcd_em {x y : Int} (hx : 0 ≤ x) (hy : 0 ≤ y) : Int.gcd (x % y) y = Int.gcd x y := by
  obtain ⟨a, rfl⟩ := Int.eq_ofNat_of_zero_le hx
  obtain ⟨b, rfl⟩ := Int.eq_ofNat_of_zero_le hy
  show Nat.gcd (((a : Int) % (b : Int)).natAbs) b = Nat.gcd a b
  rw [← Int.natCast_emod, Int.natAbs_natCast, Nat.gcd_comm a b, Nat.gcd_rec b a]
/-- Euclid's loop -/
theorem common_loop {E : yE} (hE : yEok E) {d : Nat} {mem : yMem} {Q : Option yV → yMem → Prop} {g : Nat} (hQ : Q (some (4, (g : Int))) mem) : ∀ (m : Nat) (x y : Int) (r0 r1 r2 r3 r5 r7 r8 r9 : Option yV), y.toNat ≤ m → 0 ≤ x → x < 9223372036854775808 → 0 ≤ y → y < 9223372036854775808 → Int.gcd x y = g → zG E d xm_153 6 [r0, r1, r2, r3, some (4, x), r5, some (4, y), r7, r8, r9] [] mem Q := by
  intro m
  induction m with
  | zero =>
    intro x y r0 r1 r2 r3 r5 r7 r8 r9 hm hx hx2 hy hy2 hg
    have hy0 : y = 0 := by omega
    subst hy0
    refine zgo_ok (n := 40) hE xmo_153 (cs := zc_153) ?_
    simp only [ynok_30, ynok_31, w32c_0, w32c_1, w32c_2, w32c_3, w32c_4, w32c_5, w32c_6, w32c_7, w32c_8, w32c_9, w32c_10, w32c_11, w32c_12, w32c_13, w32c_14, w32c_m1, w32c_m2, w32c_118, Int.reduceAdd, Int.reduceSub, Int.reduceMul, yput_s, yput_n, znl_n, znl_0, znl_1, znl_4, ysum_n, ysum_0, ysum_1, ysum_4, true_and, and_true, Nat.reduceAdd, Nat.reduceLeDiff, true_implies, eq_self, true_or, or_true, or_false, false_or, not_true_eq_false, not_false_eq_true, false_implies, implies_true, yset_s, yset_o, yset_d, ne_eq, Nat.reduceEqDiff, Int.reduceToNat, Int.reduceEq, Int.reduceLE, Int.reduceLT, Classical.not_not, Nat.reduceLT, ↓zvk_s, ↓zvk_n, ↓s_153_0, ↓s_153_1n, ↓s_153_1i, ↓s_153_1p, ↓s_153_1l, ↓s_153_1j, ↓s_153_3, ↓s_153_4n, ↓s_153_4i, ↓s_153_4p, ↓s_153_4l, ↓s_153_4j, ↓g_153_6, ↓k_153_6, ↓s_153_8, ↓s_153_9, ↓s_153_10, ↓s_153_13, ↓s_153_15, ↓s_153_17, ↓s_153_18n, ↓s_153_18i, ↓s_153_18p, ↓s_153_18l, ↓s_153_18j, ↓s_153_20, ↓s_153_22n, ↓s_153_22i, ↓s_153_22p, ↓s_153_22l, ↓s_153_22j, ↓s_153_24, ↓s_153_26n, ↓s_153_26i, ↓s_153_26p, ↓s_153_26l, ↓s_153_26j, ↓s_153_28, ↓s_153_31, ↓s_153_33]
    refine ⟨fun _ => ?_, fun h => absurd ((ycmp_0 (by omega) (by omega)).mpr rfl) h⟩
    rw [Int.gcd_zero_right] at hg
    rw [show x = (g : Int) by omega]
    exact hQ
  | succ m ih =>
    intro x y r0 r1 r2 r3 r5 r7 r8 r9 hm hx hx2 hy hy2 hg
    refine zgo_ok (n := 40) hE xmo_153 (cs := zc_153) ?_
    simp only [ynok_30, ynok_31, w32c_0, w32c_1, w32c_2, w32c_3, w32c_4, w32c_5, w32c_6, w32c_7, w32c_8, w32c_9, w32c_10, w32c_11, w32c_12, w32c_13, w32c_14, w32c_m1, w32c_m2, w32c_118, Int.reduceAdd, Int.reduceSub, Int.reduceMul, yput_s, yput_n, znl_n, znl_0, znl_1, znl_4, ysum_n, ysum_0, ysum_1, ysum_4, true_and, and_true, Nat.reduceAdd, Nat.reduceLeDiff, true_implies, eq_self, true_or, or_true, or_false, false_or, not_true_eq_false, not_false_eq_true, false_implies, implies_true, yset_s, yset_o, yset_d, ne_eq, Nat.reduceEqDiff, Int.reduceToNat, Int.reduceEq, Int.reduceLE, Int.reduceLT, Classical.not_not, Nat.reduceLT, ↓zvk_s, ↓zvk_n, ↓s_153_0, ↓s_153_1n, ↓s_153_1i, ↓s_153_1p, ↓s_153_1l, ↓s_153_1j, ↓s_153_3, ↓s_153_4n, ↓s_153_4i, ↓s_153_4p, ↓s_153_4l, ↓s_153_4j, ↓g_153_6, ↓k_153_6, ↓s_153_8, ↓s_153_9, ↓s_153_10, ↓s_153_13, ↓s_153_15, ↓s_153_17, ↓s_153_18n, ↓s_153_18i, ↓s_153_18p, ↓s_153_18l, ↓s_153_18j, ↓s_153_20, ↓s_153_22n, ↓s_153_22i, ↓s_153_22p, ↓s_153_22l, ↓s_153_22j, ↓s_153_24, ↓s_153_26n, ↓s_153_26i, ↓s_153_26p, ↓s_153_26l, ↓s_153_26j, ↓s_153_28, ↓s_153_31, ↓s_153_33]
    refine ⟨fun h => ?_, fun h => ⟨?_, ?_⟩⟩
    · have hy0 := (ycmp_0 hy hy2).mp h
      subst hy0
      rw [Int.gcd_zero_right] at hg
      rw [show x = (g : Int) by omega]
      exact hQ
    · have hy0 : y ≠ 0 := fun e => h ((ycmp_0 hy hy2).mpr e)
      rw [w64_of (by omega) hy2]
      exact hy0
    · have hy0 : y ≠ 0 := fun e => h ((ycmp_0 hy hy2).mpr e)
      rw [ylb10 hx hx2 (by omega) hy2]
      have h1 := Int.emod_nonneg x hy0
      have h2 := Int.emod_lt_of_pos x (show 0 < y by omega)
      exact ih y (x % y) _ _ _ _ _ _ _ _ (by omega) hy hy2 h1 (by omega) (by rw [← hg, Int.gcd_comm, gcd_em hx hy])
theorem c_common {E : yE} (hE : yEok E) {D : Nat} (hD : 1 ≤ D) {mem : yMem} {Q : Option yV → yMem → Prop} {x y : Int} (hx : 0 ≤ x) (hx2 : x < 9223372036854775808) (hy : 0 ≤ y) (hy2 : y < 9223372036854775808) (hQ : Q (some (4, ((Int.gcd x y : Nat) : Int))) mem) : yCon E D xm_153 [(4, x), (4, y)] mem Q := by
  obtain ⟨d, rfl⟩ := Nat.exists_eq_add_of_le' hD
  refine e_153 ?_
  refine zvc_ok hE 40 zc_153 _ _ _ _ _ _ _ xmo_153 ?_
  simp only [ynok_30, ynok_31, w32c_0, w32c_1, w32c_2, w32c_3, w32c_4, w32c_5, w32c_6, w32c_7, w32c_8, w32c_9, w32c_10, w32c_11, w32c_12, w32c_13, w32c_14, w32c_m1, w32c_m2, w32c_118, Int.reduceAdd, Int.reduceSub, Int.reduceMul, yput_s, yput_n, znl_n, znl_0, znl_1, znl_4, ysum_n, ysum_0, ysum_1, ysum_4, true_and, and_true, Nat.reduceAdd, Nat.reduceLeDiff, true_implies, eq_self, true_or, or_true, or_false, false_or, not_true_eq_false, not_false_eq_true, false_implies, implies_true, yset_s, yset_o, yset_d, ne_eq, Nat.reduceEqDiff, Int.reduceToNat, Int.reduceEq, Int.reduceLE, Int.reduceLT, Classical.not_not, Nat.reduceLT, ↓zvk_s, ↓zvk_n, ↓s_153_0, ↓s_153_1n, ↓s_153_1i, ↓s_153_1p, ↓s_153_1l, ↓s_153_1j, ↓s_153_3, ↓s_153_4n, ↓s_153_4i, ↓s_153_4p, ↓s_153_4l, ↓s_153_4j, ↓g_153_6, ↓k_153_6, ↓s_153_8, ↓s_153_9, ↓s_153_10, ↓s_153_13, ↓s_153_15, ↓s_153_17, ↓s_153_18n, ↓s_153_18i, ↓s_153_18p, ↓s_153_18l, ↓s_153_18j, ↓s_153_20, ↓s_153_22n, ↓s_153_22i, ↓s_153_22p, ↓s_153_22l, ↓s_153_22j, ↓s_153_24, ↓s_153_26n, ↓s_153_26i, ↓s_153_26p, ↓s_153_26l, ↓s_153_26j, ↓s_153_28, ↓s_153_31, ↓s_153_33]
  exact common_loop hE hQ _ _ _ _ _ _ _ _ _ _ _ (Nat.le_refl _) hx hx2 hy hy2 rfl
end
section
theorem s_53_0 {E : yE} {n d : Nat} {mem : yMem} {Post : Option yV → yMem → Prop} {st : List yV} {r1 r2 : Option yV} {x : Int} : zvc E (n + 1) [] d xm_53 0 [some (1, x), r1, r2] (st) mem Post = (zvc E n [] d xm_53 1 [some (1, x), r1, r2] ((1, x) :: st) mem Post) := zrf rfl
theorem s_53_1 {E : yE} {n d : Nat} {mem : yMem} {Post : Option yV → yMem → Prop} {st : List yV} {r0 r1 r2 : Option yV} : zvc E (n + 1) [] d xm_53 1 [r0, r1, r2] ((1, 76) :: st) mem Post = (zvc E n [] d xm_53 4 [r0, r1, r2] ((0, mem 76 8) :: st) mem Post) := zrf rfl
theorem s_53_4 {E : yE} {n d : Nat} {mem : yMem} {Post : Option yV → yMem → Prop} {st : List yV} {r0 r1 : Option yV} {x : Int} : zvc E (n + 1) [] d xm_53 4 [r0, r1, some (0, x)] (st) mem Post = (zvc E n [] d xm_53 5 [r0, r1, some (0, x)] ((0, x) :: st) mem Post) := zrf rfl
theorem s_53_5 {E : yE} {n d : Nat} {mem : yMem} {Post : Option yV → yMem → Prop} {st : List yV} {r0 r1 r2 : Option yV} {x y : Int} : zvc E (n + 1) [] d xm_53 5 [r0, r1, r2] ((0, y) :: (0, x) :: st) mem Post = ((w32 y < w32 x → zvc E n [] d xm_53 43 [r0, r1, r2] (st) mem Post) ∧ (¬ (w32 y < w32 x) → zvc E n [] d xm_53 8 [r0, r1, r2] (st) mem Post)) := zrf rfl
theorem s_53_8 {E : yE} {n d : Nat} {mem : yMem} {Post : Option yV → yMem → Prop} {st : List yV} {r1 r2 : Option yV} {x : Int} : zvc E (n + 1) [] d xm_53 8 [some (1, x), r1, r2] (st) mem Post = (zvc E n [] d xm_53 9 [some (1, x), r1, r2] ((1, x) :: st) mem Post) := zrf rfl
theorem s_53_9 {E : yE} {n d : Nat} {mem : yMem} {Post : Option yV → yMem → Prop} {st : List yV} {r0 r1 r2 : Option yV} : zvc E (n + 1) [] d xm_53 9 [r0, r1, r2] ((1, 76) :: st) mem Post = (zvc E n [] d xm_53 12 [r0, r1, r2] ((0, mem 76 9) :: st) mem Post) := zrf rfl
theorem s_53_12 {E : yE} {n d : Nat} {mem : yMem} {Post : Option yV → yMem → Prop} {st : List yV} {r1 r2 : Option yV} {x : Int} : zvc E (n + 1) [] d xm_53 12 [some (1, x), r1, r2] (st) mem Post = (zvc E n [] d xm_53 13 [some (1, x), r1, r2] ((1, x) :: st) mem Post) := zrf rfl
theorem s_53_13 {E : yE} {n d : Nat} {mem : yMem} {Post : Option yV → yMem → Prop} {st : List yV} {r0 r1 r2 : Option yV} : zvc E (n + 1) [] d xm_53 13 [r0, r1, r2] ((1, 76) :: st) mem Post = (zvc E n [] d xm_53 16 [r0, r1, r2] ((1, 80) :: st) mem Post) := zrf rfl
theorem s_53_16 {E : yE} {n d : Nat} {mem : yMem} {Post : Option yV → yMem → Prop} {st : List yV} {r0 r2 : Option yV} {x : Int} : zvc E (n + 1) [] d xm_53 16 [r0, some (0, x), r2] (st) mem Post = (zvc E n [] d xm_53 17 [r0, some (0, x), r2] ((0, x) :: st) mem Post) := zrf rfl
theorem s_53_17 {E : yE} {n d : Nat} {mem : yMem} {Post : Option yV → yMem → Prop} {st : List yV} {r0 r1 r2 : Option yV} : zvc E (n + 1) [] d xm_53 17 [r0, r1, r2] (st) mem Post = (zvc E n [] d xm_53 18 [r0, r1, r2] ((0, 1) :: st) mem Post) := zrf rfl
theorem s_53_18 {E : yE} {n d : Nat} {mem : yMem} {Post : Option yV → yMem → Prop} {st : List yV} {r0 r1 r2 : Option yV} {x y : Int} : zvc E (n + 1) [] d xm_53 18 [r0, r1, r2] ((0, y) :: (0, x) :: st) mem Post = (zvc E n [] d xm_53 19 [r0, r1, r2] ((0, x + y) :: st) mem Post) := zrf rfl
theorem s_53_19 {E : yE} {n d : Nat} {mem : yMem} {Post : Option yV → yMem → Prop} {st : List yV} {r0 r1 r2 : Option yV} {z j : Int} : zvc E (n + 1) [] d xm_53 19 [r0, r1, r2] ((0, j) :: (1, z) :: st) mem Post = (∃ m rs q, ysh[z.toNat]? = some (.inl (4, m, rs)) ∧ 0 ≤ w32 j ∧ w32 j < (m : Int) ∧ rs[(w32 j).toNat]? = some q ∧ zvc E n [] d xm_53 20 [r0, r1, r2] ((1, (q : Int)) :: st) mem Post) := zrf rfl
theorem s_53_20 {E : yE} {n d : Nat} {mem : yMem} {Post : Option yV → yMem → Prop} {st : List yV} {r0 r1 : Option yV} {x : Int} : zvc E (n + 1) [] d xm_53 20 [r0, r1, some (0, x)] (st) mem Post = (zvc E n [] d xm_53 21 [r0, r1, some (0, x)] ((0, x) :: st) mem Post) := zrf rfl
theorem s_53_21 {E : yE} {n d : Nat} {mem : yMem} {Post : Option yV → yMem → Prop} {st : List yV} {r1 r2 : Option yV} {x : Int} : zvc E (n + 1) [] d xm_53 21 [some (1, x), r1, r2] (st) mem Post = (zvc E n [] d xm_53 22 [some (1, x), r1, r2] ((1, x) :: st) mem Post) := zrf rfl
theorem s_53_22 {E : yE} {n d : Nat} {mem : yMem} {Post : Option yV → yMem → Prop} {st : List yV} {r0 r1 r2 : Option yV} : zvc E (n + 1) [] d xm_53 22 [r0, r1, r2] ((1, 76) :: st) mem Post = (zvc E n [] d xm_53 25 [r0, r1, r2] ((0, mem 76 8) :: st) mem Post) := zrf rfl
theorem s_53_25 {E : yE} {n d : Nat} {mem : yMem} {Post : Option yV → yMem → Prop} {st : List yV} {r0 r1 r2 : Option yV} {x y : Int} : zvc E (n + 1) [] d xm_53 25 [r0, r1, r2] ((0, y) :: (0, x) :: st) mem Post = (zvc E n [] d xm_53 26 [r0, r1, r2] ((0, x - y) :: st) mem Post) := zrf rfl
theorem s_53_26 {E : yE} {n d : Nat} {mem : yMem} {Post : Option yV → yMem → Prop} {st : List yV} {r0 r1 r2 : Option yV} {z j : Int} : zvc E (n + 1) [] d xm_53 26 [r0, r1, r2] ((0, j) :: (1, z) :: st) mem Post = ((0 ≤ w32 j ∧ w32 j < ((zar z 0 : Nat) : Int)) ∧ zvc E n [] d xm_53 27 [r0, r1, r2] ((0, mem z.toNat (w32 j).toNat) :: st) mem Post) := zrf rfl
theorem s_53_27 {E : yE} {n d : Nat} {mem : yMem} {Post : Option yV → yMem → Prop} {st : List yV} {r0 r1 r2 : Option yV} {x y : Int} : zvc E (n + 1) [] d xm_53 27 [r0, r1, r2] ((0, y) :: (0, x) :: st) mem Post = (zvc E n [] d xm_53 28 [r0, r1, r2] ((0, x + y) :: st) mem Post) := zrf rfl
theorem s_53_28 {E : yE} {n d : Nat} {mem : yMem} {Post : Option yV → yMem → Prop} {st : List yV} {r1 r2 : Option yV} {x : Int} : zvc E (n + 1) [] d xm_53 28 [some (1, x), r1, r2] (st) mem Post = (zvc E n [] d xm_53 29 [some (1, x), r1, r2] ((1, x) :: st) mem Post) := zrf rfl
theorem s_53_29 {E : yE} {n d : Nat} {mem : yMem} {Post : Option yV → yMem → Prop} {st : List yV} {r0 r1 r2 : Option yV} : zvc E (n + 1) [] d xm_53 29 [r0, r1, r2] ((1, 76) :: st) mem Post = (zvc E n [] d xm_53 32 [r0, r1, r2] ((1, 80) :: st) mem Post) := zrf rfl
theorem s_53_32 {E : yE} {n d : Nat} {mem : yMem} {Post : Option yV → yMem → Prop} {st : List yV} {r0 r2 : Option yV} {x : Int} : zvc E (n + 1) [] d xm_53 32 [r0, some (0, x), r2] (st) mem Post = (zvc E n [] d xm_53 33 [r0, some (0, x), r2] ((0, x) :: st) mem Post) := zrf rfl
theorem s_53_33 {E : yE} {n d : Nat} {mem : yMem} {Post : Option yV → yMem → Prop} {st : List yV} {r0 r1 r2 : Option yV} {z j : Int} : zvc E (n + 1) [] d xm_53 33 [r0, r1, r2] ((0, j) :: (1, z) :: st) mem Post = (∃ m rs q, ysh[z.toNat]? = some (.inl (4, m, rs)) ∧ 0 ≤ w32 j ∧ w32 j < (m : Int) ∧ rs[(w32 j).toNat]? = some q ∧ zvc E n [] d xm_53 34 [r0, r1, r2] ((1, (q : Int)) :: st) mem Post) := zrf rfl
theorem s_53_34 {E : yE} {n d : Nat} {mem : yMem} {Post : Option yV → yMem → Prop} {st : List yV} {r0 r1 : Option yV} {x : Int} : zvc E (n + 1) [] d xm_53 34 [r0, r1, some (0, x)] (st) mem Post = (zvc E n [] d xm_53 35 [r0, r1, some (0, x)] ((0, x) :: st) mem Post) := zrf rfl
theorem s_53_35 {E : yE} {n d : Nat} {mem : yMem} {Post : Option yV → yMem → Prop} {st : List yV} {r0 r1 r2 : Option yV} {z j : Int} : zvc E (n + 1) [] d xm_53 35 [r0, r1, r2] ((0, j) :: (1, z) :: st) mem Post = ((0 ≤ w32 j ∧ w32 j < ((zar z 0 : Nat) : Int)) ∧ zvc E n [] d xm_53 36 [r0, r1, r2] ((0, mem z.toNat (w32 j).toNat) :: st) mem Post) := zrf rfl
theorem s_53_36 {E : yE} {n d : Nat} {mem : yMem} {Post : Option yV → yMem → Prop} {st : List yV} {r0 r1 r2 : Option yV} {x y : Int} : zvc E (n + 1) [] d xm_53 36 [r0, r1, r2] ((0, y) :: (0, x) :: st) mem Post = ((¬ w32 x = w32 y → zvc E n [] d xm_53 43 [r0, r1, r2] (st) mem Post) ∧ (¬ (¬ w32 x = w32 y) → zvc E n [] d xm_53 39 [r0, r1, r2] (st) mem Post)) := zrf rfl
theorem s_53_39 {E : yE} {n d : Nat} {mem : yMem} {Post : Option yV → yMem → Prop} {st : List yV} {r0 r1 r2 : Option yV} : zvc E (n + 1) [] d xm_53 39 [r0, r1, r2] (st) mem Post = (zvc E n [] d xm_53 40 [r0, r1, r2] ((0, 1) :: st) mem Post) := zrf rfl
theorem s_53_40 {E : yE} {n d : Nat} {mem : yMem} {Post : Option yV → yMem → Prop} {st : List yV} {r0 r1 r2 : Option yV} : zvc E (n + 1) [] d xm_53 40 [r0, r1, r2] (st) mem Post = (zvc E n [] d xm_53 44 [r0, r1, r2] (st) mem Post) := zrf rfl
theorem s_53_43 {E : yE} {n d : Nat} {mem : yMem} {Post : Option yV → yMem → Prop} {st : List yV} {r0 r1 r2 : Option yV} : zvc E (n + 1) [] d xm_53 43 [r0, r1, r2] (st) mem Post = (zvc E n [] d xm_53 44 [r0, r1, r2] ((0, 0) :: st) mem Post) := zrf rfl
theorem s_53_44 {E : yE} {n d : Nat} {mem : yMem} {Post : Option yV → yMem → Prop} {r0 r1 r2 : Option yV} {x : Int} : zvc E (n + 1) [] d xm_53 44 [r0, r1, r2] ([(0, x)]) mem Post = ((w32 x = 0 ∨ w32 x = 1) ∧ Post (some (0, x)) mem) := zrf rfl
theorem e_53 {E : yE} {d : Nat} {mem : yMem} {Q : Option yV → yMem → Prop} {z a0 a1 : Int} (h : zG E d xm_53 0 [some (1, z), some (0, a0), some (0, a1)] [] mem Q) : yCon E (d + 1) xm_53 [(1, z), (0, a0), (0, a1)] mem Q := zcon_of xmo_53 (Nat.le_of_ble_eq_true rfl) h

theorem c_isbest {E : yE} (hE : yEok E) {D : Nat} (hD : 1 ≤ D) {mem : yMem} {Q : Option yV → yMem → Prop} {v l : Int} (hv : 0 ≤ w32 v) (hv2 : w32 v ≤ 3) (hl : w32 l ≤ 96) (hG : aGok mem) (hQ : ∀ x : Int, x = 0 ∨ x = 1 → Q (some (0, x)) mem) : yCon E D xm_53 [(1, 76), (0, v), (0, l)] mem Q := by
  obtain ⟨d, rfl⟩ := Nat.exists_eq_add_of_le' hD
  refine e_53 ?_
  refine zvc_ok hE 60 [] _ _ _ _ _ _ _ xmo_53 ?_
  have hr := ag hG 76 8 ag_76_8
  simp only [ynok_30, ynok_31, w32c_0, w32c_1, w32c_2, w32c_3, w32c_4, w32c_5, w32c_6, w32c_7, w32c_8, w32c_9, w32c_10, w32c_11, w32c_12, w32c_13, w32c_14, w32c_m1, w32c_m2, w32c_118, Int.reduceAdd, Int.reduceSub, Int.reduceMul, yput_s, yput_n, znl_n, znl_0, znl_1, znl_4, ysum_n, ysum_0, ysum_1, ysum_4, true_and, and_true, Nat.reduceAdd, Nat.reduceLeDiff, true_implies, eq_self, true_or, or_true, or_false, false_or, not_true_eq_false, not_false_eq_true, false_implies, implies_true, yset_s, yset_o, yset_d, ne_eq, Nat.reduceEqDiff, Int.reduceToNat, Int.reduceEq, Int.reduceLE, Int.reduceLT, Classical.not_not, Nat.reduceLT, ↓zvk_s, ↓zvk_n, ↓s_53_0, ↓s_53_1, ↓s_53_4, ↓s_53_5, ↓s_53_8, ↓s_53_9, ↓s_53_12, ↓s_53_13, ↓s_53_16, ↓s_53_17, ↓s_53_18, ↓s_53_19, ↓s_53_20, ↓s_53_21, ↓s_53_22, ↓s_53_25, ↓s_53_26, ↓s_53_27, ↓s_53_28, ↓s_53_29, ↓s_53_32, ↓s_53_33, ↓s_53_34, ↓s_53_35, ↓s_53_36, ↓s_53_39, ↓s_53_40, ↓s_53_43, ↓s_53_44, zar_80, zia_80, zln_80, zit_80, zio_76]
  have one : ∀ j : Int, 0 ≤ w32 j → w32 j ≤ 4 → ∃ q : Nat, [81, 82, 83, 84, 85][(w32 j).toNat]? = some q ∧ (zar (q : Int) 0 = 97) := by
    intro j h1 h2
    have : w32 j = 0 ∨ w32 j = 1 ∨ w32 j = 2 ∨ w32 j = 3 ∨ w32 j = 4 := by omega
    rcases this with e | e | e | e | e <;> rw [e]
    · exact ⟨81, rfl, rfl⟩
    · exact ⟨82, rfl, rfl⟩
    · exact ⟨83, rfl, rfl⟩
    · exact ⟨84, rfl, rfl⟩
    · exact ⟨85, rfl, rfl⟩
  refine ⟨fun _ => hQ _ (Or.inl rfl), fun h => ?_⟩
  have e1 : w32 (v + 1) = w32 v + 1 := by rw [w32_ad (by rw [w32c_1]; omega) (by rw [w32c_1]; omega), w32c_1]
  obtain ⟨q1, g1, g2⟩ := one (v + 1) (by omega) (by omega)
  obtain ⟨q0, g3, g4⟩ := one v (by omega) (by omega)
  have e2 : w32 (l - mem 76 8) = w32 l - w32 (mem 76 8) := w32_sb (by omega) (by omega)
  refine ⟨5, [81, 82, 83, 84, 85], q1, rfl, by omega, by omega, g1, ?_⟩
  rw [g2]
  refine ⟨⟨by omega, by omega⟩, ?_⟩
  refine ⟨5, [81, 82, 83, 84, 85], q0, rfl, by omega, by omega, g3, ?_⟩
  rw [g4]
  refine ⟨⟨by omega, by omega⟩, ⟨fun _ => hQ _ (Or.inl rfl), fun _ => hQ _ (Or.inr rfl)⟩⟩
end
section
theorem s_255_0 {E : yE} {n d : Nat} {mem : yMem} {Post : Option yV → yMem → Prop} {st : List yV} {x : Int} : zvc E (n + 1) [] d xm_255 0 [some (0, x)] (st) mem Post = (zvc E n [] d xm_255 1 [some (0, x)] ((0, x) :: st) mem Post) := zrf rfl
theorem s_255_1 {E : yE} {n d : Nat} {mem : yMem} {Post : Option yV → yMem → Prop} {st : List yV} {x : Int} : zvc E (n + 1) [] d xm_255 1 [some (0, x)] (st) mem Post = (zvc E n [] d xm_255 2 [some (0, x)] ((0, x) :: st) mem Post) := zrf rfl
theorem s_255_2 {E : yE} {n d : Nat} {mem : yMem} {Post : Option yV → yMem → Prop} {st : List yV} {r0 : Option yV} : zvc E (n + 1) [] d xm_255 2 [r0] (st) mem Post = (zvc E n [] d xm_255 3 [r0] ((0, 1) :: st) mem Post) := zrf rfl
theorem s_255_3 {E : yE} {n d : Nat} {mem : yMem} {Post : Option yV → yMem → Prop} {st : List yV} {r0 : Option yV} {x y : Int} : zvc E (n + 1) [] d xm_255 3 [r0] ((0, y) :: (0, x) :: st) mem Post = (zvc E n [] d xm_255 4 [r0] ((0, ybin 8 x y) :: st) mem Post) := zrf rfl
theorem s_255_4 {E : yE} {n d : Nat} {mem : yMem} {Post : Option yV → yMem → Prop} {st : List yV} {r0 : Option yV} : zvc E (n + 1) [] d xm_255 4 [r0] (st) mem Post = (zvc E n [] d xm_255 7 [r0] ((0, 1431655765) :: st) mem Post) := zrf rfl
theorem s_255_7 {E : yE} {n d : Nat} {mem : yMem} {Post : Option yV → yMem → Prop} {st : List yV} {r0 : Option yV} {x y : Int} : zvc E (n + 1) [] d xm_255 7 [r0] ((0, y) :: (0, x) :: st) mem Post = (zvc E n [] d xm_255 8 [r0] ((0, ybin 3 x y) :: st) mem Post) := zrf rfl
theorem s_255_8 {E : yE} {n d : Nat} {mem : yMem} {Post : Option yV → yMem → Prop} {st : List yV} {r0 : Option yV} {x y : Int} : zvc E (n + 1) [] d xm_255 8 [r0] ((0, y) :: (0, x) :: st) mem Post = (zvc E n [] d xm_255 9 [r0] ((0, x - y) :: st) mem Post) := zrf rfl
theorem s_255_9 {E : yE} {n d : Nat} {mem : yMem} {Post : Option yV → yMem → Prop} {st : List yV} {r0 : Option yV} {x : Int} : zvc E (n + 1) [] d xm_255 9 [r0] ((0, x) :: st) mem Post = (zvc E n [] d xm_255 10 [some (0, x)] (st) mem Post) := zrf rfl
theorem s_255_10 {E : yE} {n d : Nat} {mem : yMem} {Post : Option yV → yMem → Prop} {st : List yV} {x : Int} : zvc E (n + 1) [] d xm_255 10 [some (0, x)] (st) mem Post = (zvc E n [] d xm_255 11 [some (0, x)] ((0, x) :: st) mem Post) := zrf rfl
theorem s_255_11 {E : yE} {n d : Nat} {mem : yMem} {Post : Option yV → yMem → Prop} {st : List yV} {r0 : Option yV} : zvc E (n + 1) [] d xm_255 11 [r0] (st) mem Post = (zvc E n [] d xm_255 14 [r0] ((0, 858993459) :: st) mem Post) := zrf rfl
theorem s_255_14 {E : yE} {n d : Nat} {mem : yMem} {Post : Option yV → yMem → Prop} {st : List yV} {r0 : Option yV} {x y : Int} : zvc E (n + 1) [] d xm_255 14 [r0] ((0, y) :: (0, x) :: st) mem Post = (zvc E n [] d xm_255 15 [r0] ((0, ybin 3 x y) :: st) mem Post) := zrf rfl
theorem s_255_15 {E : yE} {n d : Nat} {mem : yMem} {Post : Option yV → yMem → Prop} {st : List yV} {x : Int} : zvc E (n + 1) [] d xm_255 15 [some (0, x)] (st) mem Post = (zvc E n [] d xm_255 16 [some (0, x)] ((0, x) :: st) mem Post) := zrf rfl
theorem s_255_16 {E : yE} {n d : Nat} {mem : yMem} {Post : Option yV → yMem → Prop} {st : List yV} {r0 : Option yV} : zvc E (n + 1) [] d xm_255 16 [r0] (st) mem Post = (zvc E n [] d xm_255 17 [r0] ((0, 2) :: st) mem Post) := zrf rfl
theorem s_255_17 {E : yE} {n d : Nat} {mem : yMem} {Post : Option yV → yMem → Prop} {st : List yV} {r0 : Option yV} {x y : Int} : zvc E (n + 1) [] d xm_255 17 [r0] ((0, y) :: (0, x) :: st) mem Post = (zvc E n [] d xm_255 18 [r0] ((0, ybin 8 x y) :: st) mem Post) := zrf rfl
theorem s_255_18 {E : yE} {n d : Nat} {mem : yMem} {Post : Option yV → yMem → Prop} {st : List yV} {r0 : Option yV} : zvc E (n + 1) [] d xm_255 18 [r0] (st) mem Post = (zvc E n [] d xm_255 21 [r0] ((0, 858993459) :: st) mem Post) := zrf rfl
theorem s_255_21 {E : yE} {n d : Nat} {mem : yMem} {Post : Option yV → yMem → Prop} {st : List yV} {r0 : Option yV} {x y : Int} : zvc E (n + 1) [] d xm_255 21 [r0] ((0, y) :: (0, x) :: st) mem Post = (zvc E n [] d xm_255 22 [r0] ((0, ybin 3 x y) :: st) mem Post) := zrf rfl
theorem s_255_22 {E : yE} {n d : Nat} {mem : yMem} {Post : Option yV → yMem → Prop} {st : List yV} {r0 : Option yV} {x y : Int} : zvc E (n + 1) [] d xm_255 22 [r0] ((0, y) :: (0, x) :: st) mem Post = (zvc E n [] d xm_255 23 [r0] ((0, x + y) :: st) mem Post) := zrf rfl
theorem s_255_23 {E : yE} {n d : Nat} {mem : yMem} {Post : Option yV → yMem → Prop} {st : List yV} {r0 : Option yV} {x : Int} : zvc E (n + 1) [] d xm_255 23 [r0] ((0, x) :: st) mem Post = (zvc E n [] d xm_255 24 [some (0, x)] (st) mem Post) := zrf rfl
theorem s_255_24 {E : yE} {n d : Nat} {mem : yMem} {Post : Option yV → yMem → Prop} {st : List yV} {x : Int} : zvc E (n + 1) [] d xm_255 24 [some (0, x)] (st) mem Post = (zvc E n [] d xm_255 25 [some (0, x)] ((0, x) :: st) mem Post) := zrf rfl
theorem s_255_25 {E : yE} {n d : Nat} {mem : yMem} {Post : Option yV → yMem → Prop} {st : List yV} {x : Int} : zvc E (n + 1) [] d xm_255 25 [some (0, x)] (st) mem Post = (zvc E n [] d xm_255 26 [some (0, x)] ((0, x) :: st) mem Post) := zrf rfl
theorem s_255_26 {E : yE} {n d : Nat} {mem : yMem} {Post : Option yV → yMem → Prop} {st : List yV} {r0 : Option yV} : zvc E (n + 1) [] d xm_255 26 [r0] (st) mem Post = (zvc E n [] d xm_255 27 [r0] ((0, 4) :: st) mem Post) := zrf rfl
theorem s_255_27 {E : yE} {n d : Nat} {mem : yMem} {Post : Option yV → yMem → Prop} {st : List yV} {r0 : Option yV} {x y : Int} : zvc E (n + 1) [] d xm_255 27 [r0] ((0, y) :: (0, x) :: st) mem Post = (zvc E n [] d xm_255 28 [r0] ((0, ybin 8 x y) :: st) mem Post) := zrf rfl
theorem s_255_28 {E : yE} {n d : Nat} {mem : yMem} {Post : Option yV → yMem → Prop} {st : List yV} {r0 : Option yV} {x y : Int} : zvc E (n + 1) [] d xm_255 28 [r0] ((0, y) :: (0, x) :: st) mem Post = (zvc E n [] d xm_255 29 [r0] ((0, x + y) :: st) mem Post) := zrf rfl
theorem s_255_29 {E : yE} {n d : Nat} {mem : yMem} {Post : Option yV → yMem → Prop} {st : List yV} {r0 : Option yV} : zvc E (n + 1) [] d xm_255 29 [r0] (st) mem Post = (zvc E n [] d xm_255 32 [r0] ((0, 252645135) :: st) mem Post) := zrf rfl
theorem s_255_32 {E : yE} {n d : Nat} {mem : yMem} {Post : Option yV → yMem → Prop} {st : List yV} {r0 : Option yV} {x y : Int} : zvc E (n + 1) [] d xm_255 32 [r0] ((0, y) :: (0, x) :: st) mem Post = (zvc E n [] d xm_255 33 [r0] ((0, ybin 3 x y) :: st) mem Post) := zrf rfl
theorem s_255_33 {E : yE} {n d : Nat} {mem : yMem} {Post : Option yV → yMem → Prop} {st : List yV} {r0 : Option yV} {x : Int} : zvc E (n + 1) [] d xm_255 33 [r0] ((0, x) :: st) mem Post = (zvc E n [] d xm_255 34 [some (0, x)] (st) mem Post) := zrf rfl
theorem s_255_34 {E : yE} {n d : Nat} {mem : yMem} {Post : Option yV → yMem → Prop} {st : List yV} {x : Int} : zvc E (n + 1) [] d xm_255 34 [some (0, x)] (st) mem Post = (zvc E n [] d xm_255 35 [some (0, x)] ((0, x) :: st) mem Post) := zrf rfl
theorem s_255_35 {E : yE} {n d : Nat} {mem : yMem} {Post : Option yV → yMem → Prop} {st : List yV} {x : Int} : zvc E (n + 1) [] d xm_255 35 [some (0, x)] (st) mem Post = (zvc E n [] d xm_255 36 [some (0, x)] ((0, x) :: st) mem Post) := zrf rfl
theorem s_255_36 {E : yE} {n d : Nat} {mem : yMem} {Post : Option yV → yMem → Prop} {st : List yV} {r0 : Option yV} : zvc E (n + 1) [] d xm_255 36 [r0] (st) mem Post = (zvc E n [] d xm_255 38 [r0] ((0, 8) :: st) mem Post) := zrf rfl
theorem s_255_38 {E : yE} {n d : Nat} {mem : yMem} {Post : Option yV → yMem → Prop} {st : List yV} {r0 : Option yV} {x y : Int} : zvc E (n + 1) [] d xm_255 38 [r0] ((0, y) :: (0, x) :: st) mem Post = (zvc E n [] d xm_255 39 [r0] ((0, ybin 8 x y) :: st) mem Post) := zrf rfl
theorem s_255_39 {E : yE} {n d : Nat} {mem : yMem} {Post : Option yV → yMem → Prop} {st : List yV} {r0 : Option yV} {x y : Int} : zvc E (n + 1) [] d xm_255 39 [r0] ((0, y) :: (0, x) :: st) mem Post = (zvc E n [] d xm_255 40 [r0] ((0, x + y) :: st) mem Post) := zrf rfl
theorem s_255_40 {E : yE} {n d : Nat} {mem : yMem} {Post : Option yV → yMem → Prop} {st : List yV} {r0 : Option yV} {x : Int} : zvc E (n + 1) [] d xm_255 40 [r0] ((0, x) :: st) mem Post = (zvc E n [] d xm_255 41 [some (0, x)] (st) mem Post) := zrf rfl
theorem s_255_41 {E : yE} {n d : Nat} {mem : yMem} {Post : Option yV → yMem → Prop} {st : List yV} {x : Int} : zvc E (n + 1) [] d xm_255 41 [some (0, x)] (st) mem Post = (zvc E n [] d xm_255 42 [some (0, x)] ((0, x) :: st) mem Post) := zrf rfl
theorem s_255_42 {E : yE} {n d : Nat} {mem : yMem} {Post : Option yV → yMem → Prop} {st : List yV} {x : Int} : zvc E (n + 1) [] d xm_255 42 [some (0, x)] (st) mem Post = (zvc E n [] d xm_255 43 [some (0, x)] ((0, x) :: st) mem Post) := zrf rfl
theorem s_255_43 {E : yE} {n d : Nat} {mem : yMem} {Post : Option yV → yMem → Prop} {st : List yV} {r0 : Option yV} : zvc E (n + 1) [] d xm_255 43 [r0] (st) mem Post = (zvc E n [] d xm_255 45 [r0] ((0, 16) :: st) mem Post) := zrf rfl
theorem s_255_45 {E : yE} {n d : Nat} {mem : yMem} {Post : Option yV → yMem → Prop} {st : List yV} {r0 : Option yV} {x y : Int} : zvc E (n + 1) [] d xm_255 45 [r0] ((0, y) :: (0, x) :: st) mem Post = (zvc E n [] d xm_255 46 [r0] ((0, ybin 8 x y) :: st) mem Post) := zrf rfl
theorem s_255_46 {E : yE} {n d : Nat} {mem : yMem} {Post : Option yV → yMem → Prop} {st : List yV} {r0 : Option yV} {x y : Int} : zvc E (n + 1) [] d xm_255 46 [r0] ((0, y) :: (0, x) :: st) mem Post = (zvc E n [] d xm_255 47 [r0] ((0, x + y) :: st) mem Post) := zrf rfl
theorem s_255_47 {E : yE} {n d : Nat} {mem : yMem} {Post : Option yV → yMem → Prop} {st : List yV} {r0 : Option yV} {x : Int} : zvc E (n + 1) [] d xm_255 47 [r0] ((0, x) :: st) mem Post = (zvc E n [] d xm_255 48 [some (0, x)] (st) mem Post) := zrf rfl
theorem s_255_48 {E : yE} {n d : Nat} {mem : yMem} {Post : Option yV → yMem → Prop} {st : List yV} {x : Int} : zvc E (n + 1) [] d xm_255 48 [some (0, x)] (st) mem Post = (zvc E n [] d xm_255 49 [some (0, x)] ((0, x) :: st) mem Post) := zrf rfl
theorem s_255_49 {E : yE} {n d : Nat} {mem : yMem} {Post : Option yV → yMem → Prop} {st : List yV} {r0 : Option yV} : zvc E (n + 1) [] d xm_255 49 [r0] (st) mem Post = (zvc E n [] d xm_255 51 [r0] ((0, 63) :: st) mem Post) := zrf rfl
theorem s_255_51 {E : yE} {n d : Nat} {mem : yMem} {Post : Option yV → yMem → Prop} {st : List yV} {r0 : Option yV} {x y : Int} : zvc E (n + 1) [] d xm_255 51 [r0] ((0, y) :: (0, x) :: st) mem Post = (zvc E n [] d xm_255 52 [r0] ((0, ybin 3 x y) :: st) mem Post) := zrf rfl
theorem s_255_52 {E : yE} {n d : Nat} {mem : yMem} {Post : Option yV → yMem → Prop} {r0 : Option yV} {x : Int} : zvc E (n + 1) [] d xm_255 52 [r0] ([(0, x)]) mem Post = (Post (some (0, x)) mem) := zrf rfl
theorem e_255 {E : yE} {d : Nat} {mem : yMem} {Q : Option yV → yMem → Prop} {a0 : Int} (h : zG E d xm_255 0 [some (0, a0)] [] mem Q) : yCon E (d + 1) xm_255 [(0, a0)] mem Q := zcon_of xmo_255 (Nat.le_of_ble_eq_true rfl) h

def zb1 (x : Int) : Int := x - ybin 3 (ybin 8 x 1) 1431655765
def zb2 (x : Int) : Int := ybin 3 x 858993459 + ybin 3 (ybin 8 x 2) 858993459
def zb3 (x : Int) : Int := ybin 3 (x + ybin 8 x 4) 252645135
def zb4 (x : Int) : Int := x + ybin 8 x 8
def zb5 (x : Int) : Int := x + ybin 8 x 16
def zbf (x : Int) : Int := ybin 3 (zb5 (zb4 (zb3 (zb2 (zb1 x))))) 63
def zbg (x : Int32) : Int32 :=
  let a := x - fbin 3 (fbin 8 x (iI 1)) (iI 1431655765)
  let b := fbin 3 a (iI 858993459) + fbin 3 (fbin 8 a (iI 2)) (iI 858993459)
  let c := fbin 3 (b + fbin 8 b (iI 4)) (iI 252645135)
  let d := c + fbin 8 c (iI 8)
  let e := d + fbin 8 d (iI 16)
  fbin 3 e (iI 63)
theorem iI_ad (x y : Int) : iI (x + y) = iI x + iI y := Int32.ofInt_add x y
theorem iI_sb (x y : Int) : iI (x - y) = iI x - iI y := Int32.ofInt_sub x y
theorem zbf_ok (x : Int) : iI (zbf x) = zbg (iI x) := by
  simp only [zbf, zb5, zb4, zb3, zb2, zb1, ybin_ok, iI_ad, iI_sb, zbg]
/-- the ones among the first n bits -/
def zpc : Nat → Nat → Nat
  | 0, _ => 0
  | n + 1, k => k % 2 + zpc n (k / 2)
theorem zbg_all : ∀ k : Nat, k < 256 → (zbg (nI k)).toInt = ((zpc 8 k : Nat) : Int) ∧ zpc 8 k ≤ 8 := by decide +kernel
theorem zbf_w {x : Int} (h1 : 0 ≤ w32 x) (h2 : w32 x ≤ 255) : w32 (zbf x) = ((zpc 8 (w32 x).toNat : Nat) : Int) ∧ zpc 8 (w32 x).toNat ≤ 8 := by
  have := zbg_all (w32 x).toNat (by omega)
  have e : nI (w32 x).toNat = iI x := by rw [← iI_n, Int.toNat_of_nonneg h1, iI_w]
  rw [e, ← zbf_ok] at this
  exact this
theorem c_bitc {E : yE} (hE : yEok E) {D : Nat} (hD : 1 ≤ D) {mem : yMem} {Q : Option yV → yMem → Prop} {x : Int} (hQ : Q (some (0, zbf x)) mem) : yCon E D xm_255 [(0, x)] mem Q := by
  obtain ⟨d, rfl⟩ := Nat.exists_eq_add_of_le' hD
  refine e_255 ?_
  refine zvc_ok hE 60 [] _ _ _ _ _ _ _ xmo_255 ?_
  simp only [ynok_30, ynok_31, w32c_0, w32c_1, w32c_2, w32c_3, w32c_4, w32c_5, w32c_6, w32c_7, w32c_8, w32c_9, w32c_10, w32c_11, w32c_12, w32c_13, w32c_14, w32c_m1, w32c_m2, w32c_118, Int.reduceAdd, Int.reduceSub, Int.reduceMul, yput_s, yput_n, znl_n, znl_0, znl_1, znl_4, ysum_n, ysum_0, ysum_1, ysum_4, true_and, and_true, Nat.reduceAdd, Nat.reduceLeDiff, true_implies, eq_self, true_or, or_true, or_false, false_or, not_true_eq_false, not_false_eq_true, false_implies, implies_true, yset_s, yset_o, yset_d, ne_eq, Nat.reduceEqDiff, Int.reduceToNat, Int.reduceEq, Int.reduceLE, Int.reduceLT, Classical.not_not, Nat.reduceLT, ↓zvk_s, ↓zvk_n, ↓s_255_0, ↓s_255_1, ↓s_255_2, ↓s_255_3, ↓s_255_4, ↓s_255_7, ↓s_255_8, ↓s_255_9, ↓s_255_10, ↓s_255_11, ↓s_255_14, ↓s_255_15, ↓s_255_16, ↓s_255_17, ↓s_255_18, ↓s_255_21, ↓s_255_22, ↓s_255_23, ↓s_255_24, ↓s_255_25, ↓s_255_26, ↓s_255_27, ↓s_255_28, ↓s_255_29, ↓s_255_32, ↓s_255_33, ↓s_255_34, ↓s_255_35, ↓s_255_36, ↓s_255_38, ↓s_255_39, ↓s_255_40, ↓s_255_41, ↓s_255_42, ↓s_255_43, ↓s_255_45, ↓s_255_46, ↓s_255_47, ↓s_255_48, ↓s_255_49, ↓s_255_51, ↓s_255_52, w32c_16, w32c_63]
  exact hQ
end
section
theorem s_181_0 {E : yE} {n d : Nat} {mem : yMem} {Post : Option yV → yMem → Prop} {st : List yV} {x : Int} : zvc E (n + 1) [] d xm_181 0 [some (0, x)] (st) mem Post = (zvc E n [] d xm_181 1 [some (0, x)] ((0, x) :: st) mem Post) := zrf rfl
theorem s_181_1 {E : yE} {n d : Nat} {mem : yMem} {Post : Option yV → yMem → Prop} {st : List yV} {r0 : Option yV} {x : Int} : zvc E (n + 1) [] d xm_181 1 [r0] ((0, x) :: st) mem Post = ((w32 x = w32 0 → zvc E n [] d xm_181 8 [r0] (st) mem Post) ∧ (¬ (w32 x = w32 0) → zvc E n [] d xm_181 4 [r0] (st) mem Post)) := zrf rfl
theorem s_181_4 {E : yE} {n d : Nat} {mem : yMem} {Post : Option yV → yMem → Prop} {st : List yV} {r0 : Option yV} : zvc E (n + 1) [] d xm_181 4 [r0] (st) mem Post = (zvc E n [] d xm_181 5 [r0] ((4, 1) :: st) mem Post) := zrf rfl
theorem s_181_5 {E : yE} {n d : Nat} {mem : yMem} {Post : Option yV → yMem → Prop} {st : List yV} {r0 : Option yV} : zvc E (n + 1) [] d xm_181 5 [r0] (st) mem Post = (zvc E n [] d xm_181 9 [r0] (st) mem Post) := zrf rfl
theorem s_181_8 {E : yE} {n d : Nat} {mem : yMem} {Post : Option yV → yMem → Prop} {st : List yV} {r0 : Option yV} : zvc E (n + 1) [] d xm_181 8 [r0] (st) mem Post = (zvc E n [] d xm_181 9 [r0] ((4, 0) :: st) mem Post) := zrf rfl
theorem s_181_9 {E : yE} {n d : Nat} {mem : yMem} {Post : Option yV → yMem → Prop} {r0 : Option yV} {x : Int} : zvc E (n + 1) [] d xm_181 9 [r0] ([(4, x)]) mem Post = (Post (some (4, x)) mem) := zrf rfl
def zc_253 : List Nat := [407]
theorem s_253_0 {E : yE} {n d : Nat} {mem : yMem} {Post : Option yV → yMem → Prop} {st : List yV} {r1 r2 r3 r4 r5 r6 r7 : Option yV} {x : Int} : zvc E (n + 1) zc_253 d xm_253 0 [some (1, x), r1, r2, r3, r4, r5, r6, r7] (st) mem Post = (zvc E n zc_253 d xm_253 1 [some (1, x), r1, r2, r3, r4, r5, r6, r7] ((1, x) :: st) mem Post) := zrf rfl
theorem s_253_1 {E : yE} {n d : Nat} {mem : yMem} {Post : Option yV → yMem → Prop} {st : List yV} {r0 r1 r2 r3 r4 r5 r6 r7 : Option yV} : zvc E (n + 1) zc_253 d xm_253 1 [r0, r1, r2, r3, r4, r5, r6, r7] ((1, 95) :: st) mem Post = (zvc E n zc_253 d xm_253 4 [r0, r1, r2, r3, r4, r5, r6, r7] ((1, 131) :: st) mem Post) := zrf rfl
theorem s_253_4 {E : yE} {n d : Nat} {mem : yMem} {Post : Option yV → yMem → Prop} {st : List yV} {r1 r2 r3 r4 r5 r6 r7 : Option yV} {x : Int} : zvc E (n + 1) zc_253 d xm_253 4 [some (1, x), r1, r2, r3, r4, r5, r6, r7] (st) mem Post = (zvc E n zc_253 d xm_253 5 [some (1, x), r1, r2, r3, r4, r5, r6, r7] ((1, x) :: st) mem Post) := zrf rfl
theorem s_253_5 {E : yE} {n d : Nat} {mem : yMem} {Post : Option yV → yMem → Prop} {st : List yV} {r0 r1 r2 r3 r4 r5 r6 r7 : Option yV} : zvc E (n + 1) zc_253 d xm_253 5 [r0, r1, r2, r3, r4, r5, r6, r7] ((1, 95) :: st) mem Post = (zvc E n zc_253 d xm_253 8 [r0, r1, r2, r3, r4, r5, r6, r7] ((0, mem 95 52) :: st) mem Post) := zrf rfl
theorem s_253_8 {E : yE} {n d : Nat} {mem : yMem} {Post : Option yV → yMem → Prop} {st : List yV} {r0 r1 r2 r3 r4 r5 r6 r7 : Option yV} : zvc E (n + 1) zc_253 d xm_253 8 [r0, r1, r2, r3, r4, r5, r6, r7] (st) mem Post = (zvc E n zc_253 d xm_253 9 [r0, r1, r2, r3, r4, r5, r6, r7] ((0, 1) :: st) mem Post) := zrf rfl
theorem s_253_9 {E : yE} {n d : Nat} {mem : yMem} {Post : Option yV → yMem → Prop} {st : List yV} {r0 r1 r2 r3 r4 r5 r6 r7 : Option yV} {x y : Int} : zvc E (n + 1) zc_253 d xm_253 9 [r0, r1, r2, r3, r4, r5, r6, r7] ((0, y) :: (0, x) :: st) mem Post = (zvc E n zc_253 d xm_253 10 [r0, r1, r2, r3, r4, r5, r6, r7] ((0, x - y) :: st) mem Post) := zrf rfl
theorem s_253_10 {E : yE} {n d : Nat} {mem : yMem} {Post : Option yV → yMem → Prop} {st : List yV} {r0 r1 r2 r3 r4 r5 r6 r7 : Option yV} {z j : Int} : zvc E (n + 1) zc_253 d xm_253 10 [r0, r1, r2, r3, r4, r5, r6, r7] ((0, j) :: (1, z) :: st) mem Post = ((0 ≤ w32 j ∧ w32 j < ((zar z 2 : Nat) : Int)) ∧ zvc E n zc_253 d xm_253 11 [r0, r1, r2, r3, r4, r5, r6, r7] ((4, mem z.toNat (w32 j).toNat) :: st) mem Post) := zrf rfl
theorem s_253_11n {E : yE} {n d : Nat} {mem : yMem} {Post : Option yV → yMem → Prop} {st : List yV} {r0 r2 r3 r4 r5 r6 r7 : Option yV} {x : Int} : zvc E (n + 1) zc_253 d xm_253 11 [r0, none, r2, r3, r4, r5, r6, r7] ((4, x) :: st) mem Post = (zvc E n zc_253 d xm_253 12 [r0, none, some (4, x), none, r4, r5, r6, r7] (st) mem Post) := zrf rfl
theorem s_253_11i {E : yE} {n d : Nat} {mem : yMem} {Post : Option yV → yMem → Prop} {st : List yV} {r0 r2 r3 r4 r5 r6 r7 : Option yV} {x w : Int} : zvc E (n + 1) zc_253 d xm_253 11 [r0, some (0, w), r2, r3, r4, r5, r6, r7] ((4, x) :: st) mem Post = (zvc E n zc_253 d xm_253 12 [r0, some (0, w), some (4, x), none, r4, r5, r6, r7] (st) mem Post) := zrf rfl
theorem s_253_11p {E : yE} {n d : Nat} {mem : yMem} {Post : Option yV → yMem → Prop} {st : List yV} {r0 r2 r3 r4 r5 r6 r7 : Option yV} {x w : Int} : zvc E (n + 1) zc_253 d xm_253 11 [r0, some (1, w), r2, r3, r4, r5, r6, r7] ((4, x) :: st) mem Post = (zvc E n zc_253 d xm_253 12 [r0, some (1, w), some (4, x), none, r4, r5, r6, r7] (st) mem Post) := zrf rfl
theorem s_253_11l {E : yE} {n d : Nat} {mem : yMem} {Post : Option yV → yMem → Prop} {st : List yV} {r0 r2 r3 r4 r5 r6 r7 : Option yV} {x w : Int} : zvc E (n + 1) zc_253 d xm_253 11 [r0, some (4, w), r2, r3, r4, r5, r6, r7] ((4, x) :: st) mem Post = (zvc E n zc_253 d xm_253 12 [r0, none, some (4, x), none, r4, r5, r6, r7] (st) mem Post) := zrf rfl
theorem s_253_11j {E : yE} {n d : Nat} {mem : yMem} {Post : Option yV → yMem → Prop} {st : List yV} {r0 r1 r2 r3 r4 r5 r6 r7 : Option yV} {x : Int} : zvc E (n + 1) zc_253 d xm_253 11 [r0, r1, r2, r3, r4, r5, r6, r7] ((4, x) :: st) mem Post = (zvc E n zc_253 d xm_253 12 [r0, znl r1, some (4, x), none, r4, r5, r6, r7] (st) mem Post) := zrf rfl
theorem s_253_12 {E : yE} {n d : Nat} {mem : yMem} {Post : Option yV → yMem → Prop} {st : List yV} {r0 r2 r3 r4 r5 r6 r7 : Option yV} {x : Int} : zvc E (n + 1) zc_253 d xm_253 12 [r0, some (0, x), r2, r3, r4, r5, r6, r7] (st) mem Post = (zvc E n zc_253 d xm_253 13 [r0, some (0, x), r2, r3, r4, r5, r6, r7] ((0, x) :: st) mem Post) := zrf rfl
theorem s_253_13 {E : yE} {n d : Nat} {mem : yMem} {Post : Option yV → yMem → Prop} {st : List yV} {r0 r1 r2 r3 r4 r5 r6 r7 : Option yV} : zvc E (n + 1) zc_253 d xm_253 13 [r0, r1, r2, r3, r4, r5, r6, r7] (st) mem Post = (zvc E n zc_253 d xm_253 16 [r0, r1, r2, r3, r4, r5, r6, r7] ((0, 260) :: st) mem Post) := zrf rfl
theorem s_253_16 {E : yE} {n d : Nat} {mem : yMem} {Post : Option yV → yMem → Prop} {st : List yV} {r0 r1 r2 r3 r4 r5 r6 r7 : Option yV} {x y : Int} : zvc E (n + 1) zc_253 d xm_253 16 [r0, r1, r2, r3, r4, r5, r6, r7] ((0, y) :: (0, x) :: st) mem Post = ((¬ w32 x = w32 y → zvc E n zc_253 d xm_253 46 [r0, r1, r2, r3, r4, r5, r6, r7] (st) mem Post) ∧ (¬ (¬ w32 x = w32 y) → zvc E n zc_253 d xm_253 19 [r0, r1, r2, r3, r4, r5, r6, r7] (st) mem Post)) := zrf rfl
theorem s_253_19 {E : yE} {n d : Nat} {mem : yMem} {Post : Option yV → yMem → Prop} {st : List yV} {r1 r2 r3 r4 r5 r6 r7 : Option yV} {x : Int} : zvc E (n + 1) zc_253 d xm_253 19 [some (1, x), r1, r2, r3, r4, r5, r6, r7] (st) mem Post = (zvc E n zc_253 d xm_253 20 [some (1, x), r1, r2, r3, r4, r5, r6, r7] ((1, x) :: st) mem Post) := zrf rfl
theorem s_253_20 {E : yE} {n d : Nat} {mem : yMem} {Post : Option yV → yMem → Prop} {st : List yV} {r0 r1 r2 r3 r4 r5 r6 r7 : Option yV} : zvc E (n + 1) zc_253 d xm_253 20 [r0, r1, r2, r3, r4, r5, r6, r7] ((1, 95) :: st) mem Post = (zvc E n zc_253 d xm_253 23 [r0, r1, r2, r3, r4, r5, r6, r7] ((1, 131) :: st) mem Post) := zrf rfl
theorem s_253_23 {E : yE} {n d : Nat} {mem : yMem} {Post : Option yV → yMem → Prop} {st : List yV} {r1 r2 r3 r4 r5 r6 r7 : Option yV} {x : Int} : zvc E (n + 1) zc_253 d xm_253 23 [some (1, x), r1, r2, r3, r4, r5, r6, r7] (st) mem Post = (zvc E n zc_253 d xm_253 24 [some (1, x), r1, r2, r3, r4, r5, r6, r7] ((1, x) :: st) mem Post) := zrf rfl
theorem s_253_24 {E : yE} {n d : Nat} {mem : yMem} {Post : Option yV → yMem → Prop} {st : List yV} {r0 r1 r2 r3 r4 r5 r6 r7 : Option yV} : zvc E (n + 1) zc_253 d xm_253 24 [r0, r1, r2, r3, r4, r5, r6, r7] ((1, 95) :: st) mem Post = (zvc E n zc_253 d xm_253 27 [r0, r1, r2, r3, r4, r5, r6, r7] ((0, mem 95 52) :: st) mem Post) := zrf rfl
theorem s_253_27 {E : yE} {n d : Nat} {mem : yMem} {Post : Option yV → yMem → Prop} {st : List yV} {r0 r1 r2 r3 r4 r5 r6 r7 : Option yV} : zvc E (n + 1) zc_253 d xm_253 27 [r0, r1, r2, r3, r4, r5, r6, r7] (st) mem Post = (zvc E n zc_253 d xm_253 28 [r0, r1, r2, r3, r4, r5, r6, r7] ((0, 1) :: st) mem Post) := zrf rfl
theorem s_253_28 {E : yE} {n d : Nat} {mem : yMem} {Post : Option yV → yMem → Prop} {st : List yV} {r0 r1 r2 r3 r4 r5 r6 r7 : Option yV} {x y : Int} : zvc E (n + 1) zc_253 d xm_253 28 [r0, r1, r2, r3, r4, r5, r6, r7] ((0, y) :: (0, x) :: st) mem Post = (zvc E n zc_253 d xm_253 29 [r0, r1, r2, r3, r4, r5, r6, r7] ((0, x - y) :: st) mem Post) := zrf rfl
theorem s_253_29 {E : yE} {n d : Nat} {mem : yMem} {Post : Option yV → yMem → Prop} {st : List yV} {r0 r1 r3 r4 r5 r6 r7 : Option yV} {x : Int} : zvc E (n + 1) zc_253 d xm_253 29 [r0, r1, some (4, x), r3, r4, r5, r6, r7] (st) mem Post = (zvc E n zc_253 d xm_253 30 [r0, r1, some (4, x), r3, r4, r5, r6, r7] ((4, x) :: st) mem Post) := zrf rfl
theorem s_253_30 {E : yE} {n d : Nat} {mem : yMem} {Post : Option yV → yMem → Prop} {st : List yV} {r0 r1 r2 r3 r4 r5 r6 r7 : Option yV} : zvc E (n + 1) zc_253 d xm_253 30 [r0, r1, r2, r3, r4, r5, r6, r7] (st) mem Post = (zvc E n zc_253 d xm_253 31 [r0, r1, r2, r3, r4, r5, r6, r7] ((4, 0) :: st) mem Post) := zrf rfl
theorem s_253_31 {E : yE} {n d : Nat} {mem : yMem} {Post : Option yV → yMem → Prop} {st : List yV} {r0 r1 r2 r3 r4 r5 r6 r7 : Option yV} {x y : Int} : zvc E (n + 1) zc_253 d xm_253 31 [r0, r1, r2, r3, r4, r5, r6, r7] ((4, y) :: (4, x) :: st) mem Post = (zvc E n zc_253 d xm_253 32 [r0, r1, r2, r3, r4, r5, r6, r7] ((0, ycmp x y) :: st) mem Post) := zrf rfl
theorem s_253_32 {E : yE} {n d : Nat} {mem : yMem} {Post : Option yV → yMem → Prop} {st : List yV} {r0 r1 r2 r3 r4 r5 r6 r7 : Option yV} {x : Int} : zvc E (n + 1) zc_253 d xm_253 32 [r0, r1, r2, r3, r4, r5, r6, r7] ((0, x) :: st) mem Post = ((¬ w32 x = w32 0 → zvc E n zc_253 d xm_253 39 [r0, r1, r2, r3, r4, r5, r6, r7] (st) mem Post) ∧ (¬ (¬ w32 x = w32 0) → zvc E n zc_253 d xm_253 35 [r0, r1, r2, r3, r4, r5, r6, r7] (st) mem Post)) := zrf rfl
theorem s_253_35 {E : yE} {n d : Nat} {mem : yMem} {Post : Option yV → yMem → Prop} {st : List yV} {r0 r1 r2 r3 r4 r5 r6 r7 : Option yV} : zvc E (n + 1) zc_253 d xm_253 35 [r0, r1, r2, r3, r4, r5, r6, r7] (st) mem Post = (zvc E n zc_253 d xm_253 36 [r0, r1, r2, r3, r4, r5, r6, r7] ((0, 1) :: st) mem Post) := zrf rfl
theorem s_253_36 {E : yE} {n d : Nat} {mem : yMem} {Post : Option yV → yMem → Prop} {st : List yV} {r0 r1 r2 r3 r4 r5 r6 r7 : Option yV} : zvc E (n + 1) zc_253 d xm_253 36 [r0, r1, r2, r3, r4, r5, r6, r7] (st) mem Post = (zvc E n zc_253 d xm_253 40 [r0, r1, r2, r3, r4, r5, r6, r7] (st) mem Post) := zrf rfl
theorem s_253_39 {E : yE} {n d : Nat} {mem : yMem} {Post : Option yV → yMem → Prop} {st : List yV} {r0 r1 r2 r3 r4 r5 r6 r7 : Option yV} : zvc E (n + 1) zc_253 d xm_253 39 [r0, r1, r2, r3, r4, r5, r6, r7] (st) mem Post = (zvc E n zc_253 d xm_253 40 [r0, r1, r2, r3, r4, r5, r6, r7] ((0, 0) :: st) mem Post) := zrf rfl
theorem s_253_40 {E : yE} {n d : Nat} {mem : yMem} {Post : Option yV → yMem → Prop} {st : List yV} {r0 r1 r2 r3 r4 r5 r6 r7 : Option yV} {a0 : Int} : zvc E (n + 1) zc_253 (d + 1) xm_253 40 [r0, r1, r2, r3, r4, r5, r6, r7] ((0, a0) :: st) mem Post = (True ∧ ysum st ≤ 8 ∧ zvc E n [] d xm_181 0 [some (0, a0)] [] mem (fun v mem' => zvk E n zc_253 (d + 1) xm_253 43 [r0, r1, r2, r3, r4, r5, r6, r7] st v mem' Post)) := zrf rfl
theorem s_253_43 {E : yE} {n d : Nat} {mem : yMem} {Post : Option yV → yMem → Prop} {st : List yV} {r0 r1 r2 r3 r4 r5 r6 r7 : Option yV} {x z j : Int} : zvc E (n + 1) zc_253 d xm_253 43 [r0, r1, r2, r3, r4, r5, r6, r7] ((4, x) :: (0, j) :: (1, z) :: st) mem Post = ((0 ≤ w32 j ∧ w32 j < ((zar z 2 : Nat) : Int)) ∧ zvc E n zc_253 d xm_253 44 [r0, r1, r2, r3, r4, r5, r6, r7] (st) (yset mem z.toNat (w32 j).toNat x) Post) := zrf rfl
theorem s_253_44 {E : yE} {n d : Nat} {mem : yMem} {Post : Option yV → yMem → Prop} {st : List yV} {r0 r1 r2 r3 r4 r5 r6 r7 : Option yV} : zvc E (n + 1) zc_253 d xm_253 44 [r0, r1, r2, r3, r4, r5, r6, r7] (st) mem Post = (zvc E n zc_253 d xm_253 45 [r0, r1, r2, r3, r4, r5, r6, r7] ((0, 1) :: st) mem Post) := zrf rfl
theorem s_253_45 {E : yE} {n d : Nat} {mem : yMem} {Post : Option yV → yMem → Prop} {r0 r1 r2 r3 r4 r5 r6 r7 : Option yV} {x : Int} : zvc E (n + 1) zc_253 d xm_253 45 [r0, r1, r2, r3, r4, r5, r6, r7] ([(0, x)]) mem Post = ((w32 x = 0 ∨ w32 x = 1) ∧ Post (some (0, x)) mem) := zrf rfl
theorem s_253_46 {E : yE} {n d : Nat} {mem : yMem} {Post : Option yV → yMem → Prop} {st : List yV} {r1 r2 r3 r4 r5 r6 r7 : Option yV} {x : Int} : zvc E (n + 1) zc_253 d xm_253 46 [some (1, x), r1, r2, r3, r4, r5, r6, r7] (st) mem Post = (zvc E n zc_253 d xm_253 47 [some (1, x), r1, r2, r3, r4, r5, r6, r7] ((1, x) :: st) mem Post) := zrf rfl
theorem s_253_47 {E : yE} {n d : Nat} {mem : yMem} {Post : Option yV → yMem → Prop} {st : List yV} {r0 r1 r2 r3 r4 r5 r6 r7 : Option yV} : zvc E (n + 1) zc_253 d xm_253 47 [r0, r1, r2, r3, r4, r5, r6, r7] ((1, 95) :: st) mem Post = (zvc E n zc_253 d xm_253 50 [r0, r1, r2, r3, r4, r5, r6, r7] ((1, 131) :: st) mem Post) := zrf rfl
theorem s_253_50 {E : yE} {n d : Nat} {mem : yMem} {Post : Option yV → yMem → Prop} {st : List yV} {r1 r2 r3 r4 r5 r6 r7 : Option yV} {x : Int} : zvc E (n + 1) zc_253 d xm_253 50 [some (1, x), r1, r2, r3, r4, r5, r6, r7] (st) mem Post = (zvc E n zc_253 d xm_253 51 [some (1, x), r1, r2, r3, r4, r5, r6, r7] ((1, x) :: st) mem Post) := zrf rfl
theorem s_253_51 {E : yE} {n d : Nat} {mem : yMem} {Post : Option yV → yMem → Prop} {st : List yV} {r0 r1 r2 r3 r4 r5 r6 r7 : Option yV} : zvc E (n + 1) zc_253 d xm_253 51 [r0, r1, r2, r3, r4, r5, r6, r7] ((1, 95) :: st) mem Post = (zvc E n zc_253 d xm_253 54 [r0, r1, r2, r3, r4, r5, r6, r7] ((0, mem 95 52) :: st) mem Post) := zrf rfl
theorem s_253_54 {E : yE} {n d : Nat} {mem : yMem} {Post : Option yV → yMem → Prop} {st : List yV} {r0 r1 r2 r3 r4 r5 r6 r7 : Option yV} : zvc E (n + 1) zc_253 d xm_253 54 [r0, r1, r2, r3, r4, r5, r6, r7] (st) mem Post = (zvc E n zc_253 d xm_253 55 [r0, r1, r2, r3, r4, r5, r6, r7] ((0, 2) :: st) mem Post) := zrf rfl
theorem s_253_55 {E : yE} {n d : Nat} {mem : yMem} {Post : Option yV → yMem → Prop} {st : List yV} {r0 r1 r2 r3 r4 r5 r6 r7 : Option yV} {x y : Int} : zvc E (n + 1) zc_253 d xm_253 55 [r0, r1, r2, r3, r4, r5, r6, r7] ((0, y) :: (0, x) :: st) mem Post = (zvc E n zc_253 d xm_253 56 [r0, r1, r2, r3, r4, r5, r6, r7] ((0, x - y) :: st) mem Post) := zrf rfl
theorem s_253_56 {E : yE} {n d : Nat} {mem : yMem} {Post : Option yV → yMem → Prop} {st : List yV} {r0 r1 r2 r3 r4 r5 r6 r7 : Option yV} {z j : Int} : zvc E (n + 1) zc_253 d xm_253 56 [r0, r1, r2, r3, r4, r5, r6, r7] ((0, j) :: (1, z) :: st) mem Post = ((0 ≤ w32 j ∧ w32 j < ((zar z 2 : Nat) : Int)) ∧ zvc E n zc_253 d xm_253 57 [r0, r1, r2, r3, r4, r5, r6, r7] ((4, mem z.toNat (w32 j).toNat) :: st) mem Post) := zrf rfl
theorem s_253_57n {E : yE} {n d : Nat} {mem : yMem} {Post : Option yV → yMem → Prop} {st : List yV} {r0 r1 r2 r4 r5 r6 r7 : Option yV} {x : Int} : zvc E (n + 1) zc_253 d xm_253 57 [r0, r1, r2, none, r4, r5, r6, r7] ((4, x) :: st) mem Post = (zvc E n zc_253 d xm_253 59 [r0, r1, r2, none, some (4, x), none, r6, r7] (st) mem Post) := zrf rfl
theorem s_253_57i {E : yE} {n d : Nat} {mem : yMem} {Post : Option yV → yMem → Prop} {st : List yV} {r0 r1 r2 r4 r5 r6 r7 : Option yV} {x w : Int} : zvc E (n + 1) zc_253 d xm_253 57 [r0, r1, r2, some (0, w), r4, r5, r6, r7] ((4, x) :: st) mem Post = (zvc E n zc_253 d xm_253 59 [r0, r1, r2, some (0, w), some (4, x), none, r6, r7] (st) mem Post) := zrf rfl
theorem s_253_57p {E : yE} {n d : Nat} {mem : yMem} {Post : Option yV → yMem → Prop} {st : List yV} {r0 r1 r2 r4 r5 r6 r7 : Option yV} {x w : Int} : zvc E (n + 1) zc_253 d xm_253 57 [r0, r1, r2, some (1, w), r4, r5, r6, r7] ((4, x) :: st) mem Post = (zvc E n zc_253 d xm_253 59 [r0, r1, r2, some (1, w), some (4, x), none, r6, r7] (st) mem Post) := zrf rfl
theorem s_253_57l {E : yE} {n d : Nat} {mem : yMem} {Post : Option yV → yMem → Prop} {st : List yV} {r0 r1 r2 r4 r5 r6 r7 : Option yV} {x w : Int} : zvc E (n + 1) zc_253 d xm_253 57 [r0, r1, r2, some (4, w), r4, r5, r6, r7] ((4, x) :: st) mem Post = (zvc E n zc_253 d xm_253 59 [r0, r1, r2, none, some (4, x), none, r6, r7] (st) mem Post) := zrf rfl
theorem s_253_57j {E : yE} {n d : Nat} {mem : yMem} {Post : Option yV → yMem → Prop} {st : List yV} {r0 r1 r2 r3 r4 r5 r6 r7 : Option yV} {x : Int} : zvc E (n + 1) zc_253 d xm_253 57 [r0, r1, r2, r3, r4, r5, r6, r7] ((4, x) :: st) mem Post = (zvc E n zc_253 d xm_253 59 [r0, r1, r2, znl r3, some (4, x), none, r6, r7] (st) mem Post) := zrf rfl
theorem s_253_59 {E : yE} {n d : Nat} {mem : yMem} {Post : Option yV → yMem → Prop} {st : List yV} {r1 r2 r3 r4 r5 r6 r7 : Option yV} {x : Int} : zvc E (n + 1) zc_253 d xm_253 59 [some (1, x), r1, r2, r3, r4, r5, r6, r7] (st) mem Post = (zvc E n zc_253 d xm_253 60 [some (1, x), r1, r2, r3, r4, r5, r6, r7] ((1, x) :: st) mem Post) := zrf rfl
theorem s_253_60a {E : yE} {n d : Nat} {mem : yMem} {Post : Option yV → yMem → Prop} {st : List yV} {r0 r1 r2 r3 r4 r5 r6 r7 : Option yV} {x : Int} : zvc E (n + 1) zc_253 d xm_253 60 [r0, r1, r2, r3, r4, r5, r6, r7] ((0, x) :: st) mem Post = (zvc E n zc_253 d xm_253 61 [r0, r1, r2, r3, r4, r5, r6, r7] ((0, x) :: (0, x) :: st) mem Post) := zrf rfl
theorem s_253_60b {E : yE} {n d : Nat} {mem : yMem} {Post : Option yV → yMem → Prop} {st : List yV} {r0 r1 r2 r3 r4 r5 r6 r7 : Option yV} {x : Int} : zvc E (n + 1) zc_253 d xm_253 60 [r0, r1, r2, r3, r4, r5, r6, r7] ((1, x) :: st) mem Post = (zvc E n zc_253 d xm_253 61 [r0, r1, r2, r3, r4, r5, r6, r7] ((1, x) :: (1, x) :: st) mem Post) := zrf rfl
theorem s_253_61 {E : yE} {n d : Nat} {mem : yMem} {Post : Option yV → yMem → Prop} {st : List yV} {r0 r1 r2 r3 r4 r5 r6 r7 : Option yV} : zvc E (n + 1) zc_253 d xm_253 61 [r0, r1, r2, r3, r4, r5, r6, r7] ((1, 95) :: st) mem Post = (zvc E n zc_253 d xm_253 64 [r0, r1, r2, r3, r4, r5, r6, r7] ((0, mem 95 52) :: st) mem Post) := zrf rfl
theorem s_253_64 {E : yE} {n d : Nat} {mem : yMem} {Post : Option yV → yMem → Prop} {st : List yV} {r0 r1 r2 r3 r4 r5 r6 r7 : Option yV} : zvc E (n + 1) zc_253 d xm_253 64 [r0, r1, r2, r3, r4, r5, r6, r7] (st) mem Post = (zvc E n zc_253 d xm_253 65 [r0, r1, r2, r3, r4, r5, r6, r7] ((0, 1) :: st) mem Post) := zrf rfl
theorem s_253_65 {E : yE} {n d : Nat} {mem : yMem} {Post : Option yV → yMem → Prop} {st : List yV} {r0 r1 r2 r3 r4 r5 r6 r7 : Option yV} {x y : Int} : zvc E (n + 1) zc_253 d xm_253 65 [r0, r1, r2, r3, r4, r5, r6, r7] ((0, y) :: (0, x) :: st) mem Post = (zvc E n zc_253 d xm_253 66 [r0, r1, r2, r3, r4, r5, r6, r7] ((0, x - y) :: st) mem Post) := zrf rfl
theorem s_253_66 {E : yE} {n d : Nat} {mem : yMem} {Post : Option yV → yMem → Prop} {st : List yV} {r0 r1 r2 r3 r4 r5 r6 r7 : Option yV} {x : Int} : zvc E (n + 1) zc_253 d xm_253 66 [r0, r1, r2, r3, r4, r5, r6, r7] ((0, x) :: (1, 95) :: st) mem Post = (zvc E n zc_253 d xm_253 69 [r0, r1, r2, r3, r4, r5, r6, r7] (st) (yset mem 95 52 x) Post) := zrf rfl
theorem s_253_69 {E : yE} {n d : Nat} {mem : yMem} {Post : Option yV → yMem → Prop} {st : List yV} {r0 r2 r3 r4 r5 r6 r7 : Option yV} {x : Int} : zvc E (n + 1) zc_253 d xm_253 69 [r0, some (0, x), r2, r3, r4, r5, r6, r7] (st) mem Post = (zvc E n zc_253 d xm_253 70 [r0, some (0, x), r2, r3, r4, r5, r6, r7] ((0, x) :: st) mem Post) := zrf rfl
theorem s_253_70 {E : yE} {n d : Nat} {mem : yMem} {Post : Option yV → yMem → Prop} {st : List yV} {r0 r1 r2 r3 r4 r5 r6 r7 : Option yV} {x : Int} : zvc E (n + 1) zc_253 d xm_253 70 [r0, r1, r2, r3, r4, r5, r6, r7] ((0, x) :: st) mem Post = ((w32 x = 42 → zvc E n zc_253 d xm_253 186 [r0, r1, r2, r3, r4, r5, r6, r7] (st) mem Post) ∧ (¬ w32 x = 42 → (w32 x = 43 → zvc E n zc_253 d xm_253 168 [r0, r1, r2, r3, r4, r5, r6, r7] (st) mem Post) ∧ (¬ w32 x = 43 → (w32 x = 45 → zvc E n zc_253 d xm_253 177 [r0, r1, r2, r3, r4, r5, r6, r7] (st) mem Post) ∧ (¬ w32 x = 45 → (w32 x = 47 → zvc E n zc_253 d xm_253 221 [r0, r1, r2, r3, r4, r5, r6, r7] (st) mem Post) ∧ (¬ w32 x = 47 → (w32 x = 60 → zvc E n zc_253 d xm_253 238 [r0, r1, r2, r3, r4, r5, r6, r7] (st) mem Post) ∧ (¬ w32 x = 60 → (w32 x = 61 → zvc E n zc_253 d xm_253 278 [r0, r1, r2, r3, r4, r5, r6, r7] (st) mem Post) ∧ (¬ w32 x = 61 → (w32 x = 62 → zvc E n zc_253 d xm_253 258 [r0, r1, r2, r3, r4, r5, r6, r7] (st) mem Post) ∧ (¬ w32 x = 62 → (w32 x = 256 → zvc E n zc_253 d xm_253 298 [r0, r1, r2, r3, r4, r5, r6, r7] (st) mem Post) ∧ (¬ w32 x = 256 → (w32 x = 257 → zvc E n zc_253 d xm_253 338 [r0, r1, r2, r3, r4, r5, r6, r7] (st) mem Post) ∧ (¬ w32 x = 257 → (w32 x = 258 → zvc E n zc_253 d xm_253 318 [r0, r1, r2, r3, r4, r5, r6, r7] (st) mem Post) ∧ (¬ w32 x = 258 → (w32 x = 261 → zvc E n zc_253 d xm_253 358 [r0, r1, r2, r3, r4, r5, r6, r7] (st) mem Post) ∧ (¬ w32 x = 261 → zvc E n zc_253 d xm_253 384 [r0, r1, r2, r3, r4, r5, r6, r7] (st) mem Post)))))))))))) := zrf rfl
theorem s_253_168 {E : yE} {n d : Nat} {mem : yMem} {Post : Option yV → yMem → Prop} {st : List yV} {r0 r1 r2 r3 r5 r6 r7 : Option yV} {x : Int} : zvc E (n + 1) zc_253 d xm_253 168 [r0, r1, r2, r3, some (4, x), r5, r6, r7] (st) mem Post = (zvc E n zc_253 d xm_253 170 [r0, r1, r2, r3, some (4, x), r5, r6, r7] ((4, x) :: st) mem Post) := zrf rfl
theorem s_253_170 {E : yE} {n d : Nat} {mem : yMem} {Post : Option yV → yMem → Prop} {st : List yV} {r0 r1 r3 r4 r5 r6 r7 : Option yV} {x : Int} : zvc E (n + 1) zc_253 d xm_253 170 [r0, r1, some (4, x), r3, r4, r5, r6, r7] (st) mem Post = (zvc E n zc_253 d xm_253 171 [r0, r1, some (4, x), r3, r4, r5, r6, r7] ((4, x) :: st) mem Post) := zrf rfl
theorem s_253_171 {E : yE} {n d : Nat} {mem : yMem} {Post : Option yV → yMem → Prop} {st : List yV} {r0 r1 r2 r3 r4 r5 r6 r7 : Option yV} {x y : Int} : zvc E (n + 1) zc_253 d xm_253 171 [r0, r1, r2, r3, r4, r5, r6, r7] ((4, y) :: (4, x) :: st) mem Post = (zvc E n zc_253 d xm_253 172 [r0, r1, r2, r3, r4, r5, r6, r7] ((4, x + y) :: st) mem Post) := zrf rfl
theorem s_253_172n {E : yE} {n d : Nat} {mem : yMem} {Post : Option yV → yMem → Prop} {st : List yV} {r0 r1 r2 r3 r4 r6 r7 : Option yV} {x : Int} : zvc E (n + 1) zc_253 d xm_253 172 [r0, r1, r2, r3, r4, none, r6, r7] ((4, x) :: st) mem Post = (zvc E n zc_253 d xm_253 174 [r0, r1, r2, r3, r4, none, some (4, x), none] (st) mem Post) := zrf rfl
theorem s_253_172i {E : yE} {n d : Nat} {mem : yMem} {Post : Option yV → yMem → Prop} {st : List yV} {r0 r1 r2 r3 r4 r6 r7 : Option yV} {x w : Int} : zvc E (n + 1) zc_253 d xm_253 172 [r0, r1, r2, r3, r4, some (0, w), r6, r7] ((4, x) :: st) mem Post = (zvc E n zc_253 d xm_253 174 [r0, r1, r2, r3, r4, some (0, w), some (4, x), none] (st) mem Post) := zrf rfl
theorem s_253_172p {E : yE} {n d : Nat} {mem : yMem} {Post : Option yV → yMem → Prop} {st : List yV} {r0 r1 r2 r3 r4 r6 r7 : Option yV} {x w : Int} : zvc E (n + 1) zc_253 d xm_253 172 [r0, r1, r2, r3, r4, some (1, w), r6, r7] ((4, x) :: st) mem Post = (zvc E n zc_253 d xm_253 174 [r0, r1, r2, r3, r4, some (1, w), some (4, x), none] (st) mem Post) := zrf rfl
theorem s_253_172l {E : yE} {n d : Nat} {mem : yMem} {Post : Option yV → yMem → Prop} {st : List yV} {r0 r1 r2 r3 r4 r6 r7 : Option yV} {x w : Int} : zvc E (n + 1) zc_253 d xm_253 172 [r0, r1, r2, r3, r4, some (4, w), r6, r7] ((4, x) :: st) mem Post = (zvc E n zc_253 d xm_253 174 [r0, r1, r2, r3, r4, none, some (4, x), none] (st) mem Post) := zrf rfl
theorem s_253_172j {E : yE} {n d : Nat} {mem : yMem} {Post : Option yV → yMem → Prop} {st : List yV} {r0 r1 r2 r3 r4 r5 r6 r7 : Option yV} {x : Int} : zvc E (n + 1) zc_253 d xm_253 172 [r0, r1, r2, r3, r4, r5, r6, r7] ((4, x) :: st) mem Post = (zvc E n zc_253 d xm_253 174 [r0, r1, r2, r3, r4, znl r5, some (4, x), none] (st) mem Post) := zrf rfl
theorem s_253_174 {E : yE} {n d : Nat} {mem : yMem} {Post : Option yV → yMem → Prop} {st : List yV} {r0 r1 r2 r3 r4 r5 r6 r7 : Option yV} : zvc E (n + 1) zc_253 d xm_253 174 [r0, r1, r2, r3, r4, r5, r6, r7] (st) mem Post = (zvc E n zc_253 d xm_253 407 [r0, r1, r2, r3, r4, r5, r6, r7] (st) mem Post) := zrf rfl
theorem s_253_177 {E : yE} {n d : Nat} {mem : yMem} {Post : Option yV → yMem → Prop} {st : List yV} {r0 r1 r2 r3 r5 r6 r7 : Option yV} {x : Int} : zvc E (n + 1) zc_253 d xm_253 177 [r0, r1, r2, r3, some (4, x), r5, r6, r7] (st) mem Post = (zvc E n zc_253 d xm_253 179 [r0, r1, r2, r3, some (4, x), r5, r6, r7] ((4, x) :: st) mem Post) := zrf rfl
theorem s_253_179 {E : yE} {n d : Nat} {mem : yMem} {Post : Option yV → yMem → Prop} {st : List yV} {r0 r1 r3 r4 r5 r6 r7 : Option yV} {x : Int} : zvc E (n + 1) zc_253 d xm_253 179 [r0, r1, some (4, x), r3, r4, r5, r6, r7] (st) mem Post = (zvc E n zc_253 d xm_253 180 [r0, r1, some (4, x), r3, r4, r5, r6, r7] ((4, x) :: st) mem Post) := zrf rfl
theorem s_253_180 {E : yE} {n d : Nat} {mem : yMem} {Post : Option yV → yMem → Prop} {st : List yV} {r0 r1 r2 r3 r4 r5 r6 r7 : Option yV} {x y : Int} : zvc E (n + 1) zc_253 d xm_253 180 [r0, r1, r2, r3, r4, r5, r6, r7] ((4, y) :: (4, x) :: st) mem Post = (zvc E n zc_253 d xm_253 181 [r0, r1, r2, r3, r4, r5, r6, r7] ((4, x - y) :: st) mem Post) := zrf rfl
theorem s_253_181n {E : yE} {n d : Nat} {mem : yMem} {Post : Option yV → yMem → Prop} {st : List yV} {r0 r1 r2 r3 r4 r6 r7 : Option yV} {x : Int} : zvc E (n + 1) zc_253 d xm_253 181 [r0, r1, r2, r3, r4, none, r6, r7] ((4, x) :: st) mem Post = (zvc E n zc_253 d xm_253 183 [r0, r1, r2, r3, r4, none, some (4, x), none] (st) mem Post) := zrf rfl
theorem s_253_181i {E : yE} {n d : Nat} {mem : yMem} {Post : Option yV → yMem → Prop} {st : List yV} {r0 r1 r2 r3 r4 r6 r7 : Option yV} {x w : Int} : zvc E (n + 1) zc_253 d xm_253 181 [r0, r1, r2, r3, r4, some (0, w), r6, r7] ((4, x) :: st) mem Post = (zvc E n zc_253 d xm_253 183 [r0, r1, r2, r3, r4, some (0, w), some (4, x), none] (st) mem Post) := zrf rfl
theorem s_253_181p {E : yE} {n d : Nat} {mem : yMem} {Post : Option yV → yMem → Prop} {st : List yV} {r0 r1 r2 r3 r4 r6 r7 : Option yV} {x w : Int} : zvc E (n + 1) zc_253 d xm_253 181 [r0, r1, r2, r3, r4, some (1, w), r6, r7] ((4, x) :: st) mem Post = (zvc E n zc_253 d xm_253 183 [r0, r1, r2, r3, r4, some (1, w), some (4, x), none] (st) mem Post) := zrf rfl
theorem s_253_181l {E : yE} {n d : Nat} {mem : yMem} {Post : Option yV → yMem → Prop} {st : List yV} {r0 r1 r2 r3 r4 r6 r7 : Option yV} {x w : Int} : zvc E (n + 1) zc_253 d xm_253 181 [r0, r1, r2, r3, r4, some (4, w), r6, r7] ((4, x) :: st) mem Post = (zvc E n zc_253 d xm_253 183 [r0, r1, r2, r3, r4, none, some (4, x), none] (st) mem Post) := zrf rfl
theorem s_253_181j {E : yE} {n d : Nat} {mem : yMem} {Post : Option yV → yMem → Prop} {st : List yV} {r0 r1 r2 r3 r4 r5 r6 r7 : Option yV} {x : Int} : zvc E (n + 1) zc_253 d xm_253 181 [r0, r1, r2, r3, r4, r5, r6, r7] ((4, x) :: st) mem Post = (zvc E n zc_253 d xm_253 183 [r0, r1, r2, r3, r4, znl r5, some (4, x), none] (st) mem Post) := zrf rfl
theorem s_253_183 {E : yE} {n d : Nat} {mem : yMem} {Post : Option yV → yMem → Prop} {st : List yV} {r0 r1 r2 r3 r4 r5 r6 r7 : Option yV} : zvc E (n + 1) zc_253 d xm_253 183 [r0, r1, r2, r3, r4, r5, r6, r7] (st) mem Post = (zvc E n zc_253 d xm_253 407 [r0, r1, r2, r3, r4, r5, r6, r7] (st) mem Post) := zrf rfl
theorem s_253_186 {E : yE} {n d : Nat} {mem : yMem} {Post : Option yV → yMem → Prop} {st : List yV} {r0 r1 r2 r3 r5 r6 r7 : Option yV} {x : Int} : zvc E (n + 1) zc_253 d xm_253 186 [r0, r1, r2, r3, some (4, x), r5, r6, r7] (st) mem Post = (zvc E n zc_253 d xm_253 188 [r0, r1, r2, r3, some (4, x), r5, r6, r7] ((4, x) :: st) mem Post) := zrf rfl
theorem s_253_188 {E : yE} {n d : Nat} {mem : yMem} {Post : Option yV → yMem → Prop} {st : List yV} {r0 r1 r2 r3 r4 r5 r6 r7 : Option yV} : zvc E (n + 1) zc_253 d xm_253 188 [r0, r1, r2, r3, r4, r5, r6, r7] (st) mem Post = (zvc E n zc_253 d xm_253 189 [r0, r1, r2, r3, r4, r5, r6, r7] ((4, 0) :: st) mem Post) := zrf rfl
theorem s_253_189 {E : yE} {n d : Nat} {mem : yMem} {Post : Option yV → yMem → Prop} {st : List yV} {r0 r1 r2 r3 r4 r5 r6 r7 : Option yV} {x y : Int} : zvc E (n + 1) zc_253 d xm_253 189 [r0, r1, r2, r3, r4, r5, r6, r7] ((4, y) :: (4, x) :: st) mem Post = (zvc E n zc_253 d xm_253 190 [r0, r1, r2, r3, r4, r5, r6, r7] ((0, ycmp x y) :: st) mem Post) := zrf rfl
theorem s_253_190 {E : yE} {n d : Nat} {mem : yMem} {Post : Option yV → yMem → Prop} {st : List yV} {r0 r1 r2 r3 r4 r5 r6 r7 : Option yV} {x : Int} : zvc E (n + 1) zc_253 d xm_253 190 [r0, r1, r2, r3, r4, r5, r6, r7] ((0, x) :: st) mem Post = ((w32 x = w32 0 → zvc E n zc_253 d xm_253 212 [r0, r1, r2, r3, r4, r5, r6, r7] (st) mem Post) ∧ (¬ (w32 x = w32 0) → zvc E n zc_253 d xm_253 193 [r0, r1, r2, r3, r4, r5, r6, r7] (st) mem Post)) := zrf rfl
theorem s_253_193 {E : yE} {n d : Nat} {mem : yMem} {Post : Option yV → yMem → Prop} {st : List yV} {r0 r1 r3 r4 r5 r6 r7 : Option yV} {x : Int} : zvc E (n + 1) zc_253 d xm_253 193 [r0, r1, some (4, x), r3, r4, r5, r6, r7] (st) mem Post = (zvc E n zc_253 d xm_253 194 [r0, r1, some (4, x), r3, r4, r5, r6, r7] ((4, x) :: st) mem Post) := zrf rfl
theorem s_253_194 {E : yE} {n d : Nat} {mem : yMem} {Post : Option yV → yMem → Prop} {st : List yV} {r0 r1 r2 r3 r4 r5 r6 r7 : Option yV} {x : Int} : zvc E (n + 1) zc_253 d xm_253 194 [r0, r1, r2, r3, r4, r5, r6, r7] ((4, x) :: st) mem Post = (ysum st ≤ 8 ∧ zvc E n zc_253 d xm_253 197 [r0, r1, r2, r3, r4, r5, r6, r7] ((4, zabl x) :: st) mem Post) := zrf rfl
theorem s_253_197 {E : yE} {n d : Nat} {mem : yMem} {Post : Option yV → yMem → Prop} {st : List yV} {r0 r1 r2 r3 r4 r5 r6 r7 : Option yV} : zvc E (n + 1) zc_253 d xm_253 197 [r0, r1, r2, r3, r4, r5, r6, r7] (st) mem Post = (zvc E n zc_253 d xm_253 200 [r0, r1, r2, r3, r4, r5, r6, r7] ((4, 1000000000000) :: st) mem Post) := zrf rfl
theorem s_253_200 {E : yE} {n d : Nat} {mem : yMem} {Post : Option yV → yMem → Prop} {st : List yV} {r0 r1 r2 r3 r5 r6 r7 : Option yV} {x : Int} : zvc E (n + 1) zc_253 d xm_253 200 [r0, r1, r2, r3, some (4, x), r5, r6, r7] (st) mem Post = (zvc E n zc_253 d xm_253 202 [r0, r1, r2, r3, some (4, x), r5, r6, r7] ((4, x) :: st) mem Post) := zrf rfl
theorem s_253_202 {E : yE} {n d : Nat} {mem : yMem} {Post : Option yV → yMem → Prop} {st : List yV} {r0 r1 r2 r3 r4 r5 r6 r7 : Option yV} {x : Int} : zvc E (n + 1) zc_253 d xm_253 202 [r0, r1, r2, r3, r4, r5, r6, r7] ((4, x) :: st) mem Post = (ysum st ≤ 8 ∧ zvc E n zc_253 d xm_253 205 [r0, r1, r2, r3, r4, r5, r6, r7] ((4, zabl x) :: st) mem Post) := zrf rfl
theorem s_253_205 {E : yE} {n d : Nat} {mem : yMem} {Post : Option yV → yMem → Prop} {st : List yV} {r0 r1 r2 r3 r4 r5 r6 r7 : Option yV} {x y : Int} : zvc E (n + 1) zc_253 d xm_253 205 [r0, r1, r2, r3, r4, r5, r6, r7] ((4, y) :: (4, x) :: st) mem Post = (¬ w64 y = 0 ∧ zvc E n zc_253 d xm_253 206 [r0, r1, r2, r3, r4, r5, r6, r7] ((4, ylbin 9 x y) :: st) mem Post) := zrf rfl
theorem s_253_206 {E : yE} {n d : Nat} {mem : yMem} {Post : Option yV → yMem → Prop} {st : List yV} {r0 r1 r2 r3 r4 r5 r6 r7 : Option yV} {x y : Int} : zvc E (n + 1) zc_253 d xm_253 206 [r0, r1, r2, r3, r4, r5, r6, r7] ((4, y) :: (4, x) :: st) mem Post = (zvc E n zc_253 d xm_253 207 [r0, r1, r2, r3, r4, r5, r6, r7] ((0, ycmp x y) :: st) mem Post) := zrf rfl
theorem s_253_207 {E : yE} {n d : Nat} {mem : yMem} {Post : Option yV → yMem → Prop} {st : List yV} {r0 r1 r2 r3 r4 r5 r6 r7 : Option yV} {x : Int} : zvc E (n + 1) zc_253 d xm_253 207 [r0, r1, r2, r3, r4, r5, r6, r7] ((0, x) :: st) mem Post = ((w32 x ≤ w32 0 → zvc E n zc_253 d xm_253 212 [r0, r1, r2, r3, r4, r5, r6, r7] (st) mem Post) ∧ (¬ (w32 x ≤ w32 0) → zvc E n zc_253 d xm_253 210 [r0, r1, r2, r3, r4, r5, r6, r7] (st) mem Post)) := zrf rfl
theorem s_253_210 {E : yE} {n d : Nat} {mem : yMem} {Post : Option yV → yMem → Prop} {st : List yV} {r0 r1 r2 r3 r4 r5 r6 r7 : Option yV} : zvc E (n + 1) zc_253 d xm_253 210 [r0, r1, r2, r3, r4, r5, r6, r7] (st) mem Post = (zvc E n zc_253 d xm_253 211 [r0, r1, r2, r3, r4, r5, r6, r7] ((0, 0) :: st) mem Post) := zrf rfl
theorem s_253_211 {E : yE} {n d : Nat} {mem : yMem} {Post : Option yV → yMem → Prop} {r0 r1 r2 r3 r4 r5 r6 r7 : Option yV} {x : Int} : zvc E (n + 1) zc_253 d xm_253 211 [r0, r1, r2, r3, r4, r5, r6, r7] ([(0, x)]) mem Post = ((w32 x = 0 ∨ w32 x = 1) ∧ Post (some (0, x)) mem) := zrf rfl
theorem s_253_212 {E : yE} {n d : Nat} {mem : yMem} {Post : Option yV → yMem → Prop} {st : List yV} {r0 r1 r2 r3 r5 r6 r7 : Option yV} {x : Int} : zvc E (n + 1) zc_253 d xm_253 212 [r0, r1, r2, r3, some (4, x), r5, r6, r7] (st) mem Post = (zvc E n zc_253 d xm_253 214 [r0, r1, r2, r3, some (4, x), r5, r6, r7] ((4, x) :: st) mem Post) := zrf rfl
theorem s_253_214 {E : yE} {n d : Nat} {mem : yMem} {Post : Option yV → yMem → Prop} {st : List yV} {r0 r1 r3 r4 r5 r6 r7 : Option yV} {x : Int} : zvc E (n + 1) zc_253 d xm_253 214 [r0, r1, some (4, x), r3, r4, r5, r6, r7] (st) mem Post = (zvc E n zc_253 d xm_253 215 [r0, r1, some (4, x), r3, r4, r5, r6, r7] ((4, x) :: st) mem Post) := zrf rfl
theorem s_253_215 {E : yE} {n d : Nat} {mem : yMem} {Post : Option yV → yMem → Prop} {st : List yV} {r0 r1 r2 r3 r4 r5 r6 r7 : Option yV} {x y : Int} : zvc E (n + 1) zc_253 d xm_253 215 [r0, r1, r2, r3, r4, r5, r6, r7] ((4, y) :: (4, x) :: st) mem Post = (zvc E n zc_253 d xm_253 216 [r0, r1, r2, r3, r4, r5, r6, r7] ((4, x * y) :: st) mem Post) := zrf rfl
theorem s_253_216n {E : yE} {n d : Nat} {mem : yMem} {Post : Option yV → yMem → Prop} {st : List yV} {r0 r1 r2 r3 r4 r6 r7 : Option yV} {x : Int} : zvc E (n + 1) zc_253 d xm_253 216 [r0, r1, r2, r3, r4, none, r6, r7] ((4, x) :: st) mem Post = (zvc E n zc_253 d xm_253 218 [r0, r1, r2, r3, r4, none, some (4, x), none] (st) mem Post) := zrf rfl
theorem s_253_216i {E : yE} {n d : Nat} {mem : yMem} {Post : Option yV → yMem → Prop} {st : List yV} {r0 r1 r2 r3 r4 r6 r7 : Option yV} {x w : Int} : zvc E (n + 1) zc_253 d xm_253 216 [r0, r1, r2, r3, r4, some (0, w), r6, r7] ((4, x) :: st) mem Post = (zvc E n zc_253 d xm_253 218 [r0, r1, r2, r3, r4, some (0, w), some (4, x), none] (st) mem Post) := zrf rfl
theorem s_253_216p {E : yE} {n d : Nat} {mem : yMem} {Post : Option yV → yMem → Prop} {st : List yV} {r0 r1 r2 r3 r4 r6 r7 : Option yV} {x w : Int} : zvc E (n + 1) zc_253 d xm_253 216 [r0, r1, r2, r3, r4, some (1, w), r6, r7] ((4, x) :: st) mem Post = (zvc E n zc_253 d xm_253 218 [r0, r1, r2, r3, r4, some (1, w), some (4, x), none] (st) mem Post) := zrf rfl
theorem s_253_216l {E : yE} {n d : Nat} {mem : yMem} {Post : Option yV → yMem → Prop} {st : List yV} {r0 r1 r2 r3 r4 r6 r7 : Option yV} {x w : Int} : zvc E (n + 1) zc_253 d xm_253 216 [r0, r1, r2, r3, r4, some (4, w), r6, r7] ((4, x) :: st) mem Post = (zvc E n zc_253 d xm_253 218 [r0, r1, r2, r3, r4, none, some (4, x), none] (st) mem Post) := zrf rfl
theorem s_253_216j {E : yE} {n d : Nat} {mem : yMem} {Post : Option yV → yMem → Prop} {st : List yV} {r0 r1 r2 r3 r4 r5 r6 r7 : Option yV} {x : Int} : zvc E (n + 1) zc_253 d xm_253 216 [r0, r1, r2, r3, r4, r5, r6, r7] ((4, x) :: st) mem Post = (zvc E n zc_253 d xm_253 218 [r0, r1, r2, r3, r4, znl r5, some (4, x), none] (st) mem Post) := zrf rfl
theorem s_253_218 {E : yE} {n d : Nat} {mem : yMem} {Post : Option yV → yMem → Prop} {st : List yV} {r0 r1 r2 r3 r4 r5 r6 r7 : Option yV} : zvc E (n + 1) zc_253 d xm_253 218 [r0, r1, r2, r3, r4, r5, r6, r7] (st) mem Post = (zvc E n zc_253 d xm_253 407 [r0, r1, r2, r3, r4, r5, r6, r7] (st) mem Post) := zrf rfl
theorem s_253_221 {E : yE} {n d : Nat} {mem : yMem} {Post : Option yV → yMem → Prop} {st : List yV} {r0 r1 r3 r4 r5 r6 r7 : Option yV} {x : Int} : zvc E (n + 1) zc_253 d xm_253 221 [r0, r1, some (4, x), r3, r4, r5, r6, r7] (st) mem Post = (zvc E n zc_253 d xm_253 222 [r0, r1, some (4, x), r3, r4, r5, r6, r7] ((4, x) :: st) mem Post) := zrf rfl
theorem s_253_222 {E : yE} {n d : Nat} {mem : yMem} {Post : Option yV → yMem → Prop} {st : List yV} {r0 r1 r2 r3 r4 r5 r6 r7 : Option yV} : zvc E (n + 1) zc_253 d xm_253 222 [r0, r1, r2, r3, r4, r5, r6, r7] (st) mem Post = (zvc E n zc_253 d xm_253 223 [r0, r1, r2, r3, r4, r5, r6, r7] ((4, 0) :: st) mem Post) := zrf rfl
theorem s_253_223 {E : yE} {n d : Nat} {mem : yMem} {Post : Option yV → yMem → Prop} {st : List yV} {r0 r1 r2 r3 r4 r5 r6 r7 : Option yV} {x y : Int} : zvc E (n + 1) zc_253 d xm_253 223 [r0, r1, r2, r3, r4, r5, r6, r7] ((4, y) :: (4, x) :: st) mem Post = (zvc E n zc_253 d xm_253 224 [r0, r1, r2, r3, r4, r5, r6, r7] ((0, ycmp x y) :: st) mem Post) := zrf rfl
theorem s_253_224 {E : yE} {n d : Nat} {mem : yMem} {Post : Option yV → yMem → Prop} {st : List yV} {r0 r1 r2 r3 r4 r5 r6 r7 : Option yV} {x : Int} : zvc E (n + 1) zc_253 d xm_253 224 [r0, r1, r2, r3, r4, r5, r6, r7] ((0, x) :: st) mem Post = ((¬ w32 x = w32 0 → zvc E n zc_253 d xm_253 229 [r0, r1, r2, r3, r4, r5, r6, r7] (st) mem Post) ∧ (¬ (¬ w32 x = w32 0) → zvc E n zc_253 d xm_253 227 [r0, r1, r2, r3, r4, r5, r6, r7] (st) mem Post)) := zrf rfl
theorem s_253_227 {E : yE} {n d : Nat} {mem : yMem} {Post : Option yV → yMem → Prop} {st : List yV} {r0 r1 r2 r3 r4 r5 r6 r7 : Option yV} : zvc E (n + 1) zc_253 d xm_253 227 [r0, r1, r2, r3, r4, r5, r6, r7] (st) mem Post = (zvc E n zc_253 d xm_253 228 [r0, r1, r2, r3, r4, r5, r6, r7] ((0, 0) :: st) mem Post) := zrf rfl
theorem s_253_228 {E : yE} {n d : Nat} {mem : yMem} {Post : Option yV → yMem → Prop} {r0 r1 r2 r3 r4 r5 r6 r7 : Option yV} {x : Int} : zvc E (n + 1) zc_253 d xm_253 228 [r0, r1, r2, r3, r4, r5, r6, r7] ([(0, x)]) mem Post = ((w32 x = 0 ∨ w32 x = 1) ∧ Post (some (0, x)) mem) := zrf rfl
theorem s_253_229 {E : yE} {n d : Nat} {mem : yMem} {Post : Option yV → yMem → Prop} {st : List yV} {r0 r1 r2 r3 r5 r6 r7 : Option yV} {x : Int} : zvc E (n + 1) zc_253 d xm_253 229 [r0, r1, r2, r3, some (4, x), r5, r6, r7] (st) mem Post = (zvc E n zc_253 d xm_253 231 [r0, r1, r2, r3, some (4, x), r5, r6, r7] ((4, x) :: st) mem Post) := zrf rfl
theorem s_253_231 {E : yE} {n d : Nat} {mem : yMem} {Post : Option yV → yMem → Prop} {st : List yV} {r0 r1 r3 r4 r5 r6 r7 : Option yV} {x : Int} : zvc E (n + 1) zc_253 d xm_253 231 [r0, r1, some (4, x), r3, r4, r5, r6, r7] (st) mem Post = (zvc E n zc_253 d xm_253 232 [r0, r1, some (4, x), r3, r4, r5, r6, r7] ((4, x) :: st) mem Post) := zrf rfl
theorem s_253_232 {E : yE} {n d : Nat} {mem : yMem} {Post : Option yV → yMem → Prop} {st : List yV} {r0 r1 r2 r3 r4 r5 r6 r7 : Option yV} {x y : Int} : zvc E (n + 1) zc_253 d xm_253 232 [r0, r1, r2, r3, r4, r5, r6, r7] ((4, y) :: (4, x) :: st) mem Post = (¬ w64 y = 0 ∧ zvc E n zc_253 d xm_253 233 [r0, r1, r2, r3, r4, r5, r6, r7] ((4, ylbin 9 x y) :: st) mem Post) := zrf rfl
theorem s_253_233n {E : yE} {n d : Nat} {mem : yMem} {Post : Option yV → yMem → Prop} {st : List yV} {r0 r1 r2 r3 r4 r6 r7 : Option yV} {x : Int} : zvc E (n + 1) zc_253 d xm_253 233 [r0, r1, r2, r3, r4, none, r6, r7] ((4, x) :: st) mem Post = (zvc E n zc_253 d xm_253 235 [r0, r1, r2, r3, r4, none, some (4, x), none] (st) mem Post) := zrf rfl
theorem s_253_233i {E : yE} {n d : Nat} {mem : yMem} {Post : Option yV → yMem → Prop} {st : List yV} {r0 r1 r2 r3 r4 r6 r7 : Option yV} {x w : Int} : zvc E (n + 1) zc_253 d xm_253 233 [r0, r1, r2, r3, r4, some (0, w), r6, r7] ((4, x) :: st) mem Post = (zvc E n zc_253 d xm_253 235 [r0, r1, r2, r3, r4, some (0, w), some (4, x), none] (st) mem Post) := zrf rfl
theorem s_253_233p {E : yE} {n d : Nat} {mem : yMem} {Post : Option yV → yMem → Prop} {st : List yV} {r0 r1 r2 r3 r4 r6 r7 : Option yV} {x w : Int} : zvc E (n + 1) zc_253 d xm_253 233 [r0, r1, r2, r3, r4, some (1, w), r6, r7] ((4, x) :: st) mem Post = (zvc E n zc_253 d xm_253 235 [r0, r1, r2, r3, r4, some (1, w), some (4, x), none] (st) mem Post) := zrf rfl
theorem s_253_233l {E : yE} {n d : Nat} {mem : yMem} {Post : Option yV → yMem → Prop} {st : List yV} {r0 r1 r2 r3 r4 r6 r7 : Option yV} {x w : Int} : zvc E (n + 1) zc_253 d xm_253 233 [r0, r1, r2, r3, r4, some (4, w), r6, r7] ((4, x) :: st) mem Post = (zvc E n zc_253 d xm_253 235 [r0, r1, r2, r3, r4, none, some (4, x), none] (st) mem Post) := zrf rfl
theorem s_253_233j {E : yE} {n d : Nat} {mem : yMem} {Post : Option yV → yMem → Prop} {st : List yV} {r0 r1 r2 r3 r4 r5 r6 r7 : Option yV} {x : Int} : zvc E (n + 1) zc_253 d xm_253 233 [r0, r1, r2, r3, r4, r5, r6, r7] ((4, x) :: st) mem Post = (zvc E n zc_253 d xm_253 235 [r0, r1, r2, r3, r4, znl r5, some (4, x), none] (st) mem Post) := zrf rfl
theorem s_253_235 {E : yE} {n d : Nat} {mem : yMem} {Post : Option yV → yMem → Prop} {st : List yV} {r0 r1 r2 r3 r4 r5 r6 r7 : Option yV} : zvc E (n + 1) zc_253 d xm_253 235 [r0, r1, r2, r3, r4, r5, r6, r7] (st) mem Post = (zvc E n zc_253 d xm_253 407 [r0, r1, r2, r3, r4, r5, r6, r7] (st) mem Post) := zrf rfl
theorem s_253_238 {E : yE} {n d : Nat} {mem : yMem} {Post : Option yV → yMem → Prop} {st : List yV} {r0 r1 r2 r3 r5 r6 r7 : Option yV} {x : Int} : zvc E (n + 1) zc_253 d xm_253 238 [r0, r1, r2, r3, some (4, x), r5, r6, r7] (st) mem Post = (zvc E n zc_253 d xm_253 240 [r0, r1, r2, r3, some (4, x), r5, r6, r7] ((4, x) :: st) mem Post) := zrf rfl
theorem s_253_240 {E : yE} {n d : Nat} {mem : yMem} {Post : Option yV → yMem → Prop} {st : List yV} {r0 r1 r3 r4 r5 r6 r7 : Option yV} {x : Int} : zvc E (n + 1) zc_253 d xm_253 240 [r0, r1, some (4, x), r3, r4, r5, r6, r7] (st) mem Post = (zvc E n zc_253 d xm_253 241 [r0, r1, some (4, x), r3, r4, r5, r6, r7] ((4, x) :: st) mem Post) := zrf rfl
theorem s_253_241 {E : yE} {n d : Nat} {mem : yMem} {Post : Option yV → yMem → Prop} {st : List yV} {r0 r1 r2 r3 r4 r5 r6 r7 : Option yV} {x y : Int} : zvc E (n + 1) zc_253 d xm_253 241 [r0, r1, r2, r3, r4, r5, r6, r7] ((4, y) :: (4, x) :: st) mem Post = (zvc E n zc_253 d xm_253 242 [r0, r1, r2, r3, r4, r5, r6, r7] ((0, ycmp x y) :: st) mem Post) := zrf rfl
theorem s_253_242 {E : yE} {n d : Nat} {mem : yMem} {Post : Option yV → yMem → Prop} {st : List yV} {r0 r1 r2 r3 r4 r5 r6 r7 : Option yV} {x : Int} : zvc E (n + 1) zc_253 d xm_253 242 [r0, r1, r2, r3, r4, r5, r6, r7] ((0, x) :: st) mem Post = ((w32 0 ≤ w32 x → zvc E n zc_253 d xm_253 249 [r0, r1, r2, r3, r4, r5, r6, r7] (st) mem Post) ∧ (¬ (w32 0 ≤ w32 x) → zvc E n zc_253 d xm_253 245 [r0, r1, r2, r3, r4, r5, r6, r7] (st) mem Post)) := zrf rfl
theorem s_253_245 {E : yE} {n d : Nat} {mem : yMem} {Post : Option yV → yMem → Prop} {st : List yV} {r0 r1 r2 r3 r4 r5 r6 r7 : Option yV} : zvc E (n + 1) zc_253 d xm_253 245 [r0, r1, r2, r3, r4, r5, r6, r7] (st) mem Post = (zvc E n zc_253 d xm_253 246 [r0, r1, r2, r3, r4, r5, r6, r7] ((0, 1) :: st) mem Post) := zrf rfl
theorem s_253_246 {E : yE} {n d : Nat} {mem : yMem} {Post : Option yV → yMem → Prop} {st : List yV} {r0 r1 r2 r3 r4 r5 r6 r7 : Option yV} : zvc E (n + 1) zc_253 d xm_253 246 [r0, r1, r2, r3, r4, r5, r6, r7] (st) mem Post = (zvc E n zc_253 d xm_253 250 [r0, r1, r2, r3, r4, r5, r6, r7] (st) mem Post) := zrf rfl
theorem s_253_249 {E : yE} {n d : Nat} {mem : yMem} {Post : Option yV → yMem → Prop} {st : List yV} {r0 r1 r2 r3 r4 r5 r6 r7 : Option yV} : zvc E (n + 1) zc_253 d xm_253 249 [r0, r1, r2, r3, r4, r5, r6, r7] (st) mem Post = (zvc E n zc_253 d xm_253 250 [r0, r1, r2, r3, r4, r5, r6, r7] ((0, 0) :: st) mem Post) := zrf rfl
theorem s_253_250 {E : yE} {n d : Nat} {mem : yMem} {Post : Option yV → yMem → Prop} {st : List yV} {r0 r1 r2 r3 r4 r5 r6 r7 : Option yV} {a0 : Int} : zvc E (n + 1) zc_253 (d + 1) xm_253 250 [r0, r1, r2, r3, r4, r5, r6, r7] ((0, a0) :: st) mem Post = (True ∧ ysum st ≤ 8 ∧ zvc E n [] d xm_181 0 [some (0, a0)] [] mem (fun v mem' => zvk E n zc_253 (d + 1) xm_253 253 [r0, r1, r2, r3, r4, r5, r6, r7] st v mem' Post)) := zrf rfl
theorem s_253_253n {E : yE} {n d : Nat} {mem : yMem} {Post : Option yV → yMem → Prop} {st : List yV} {r0 r1 r2 r3 r4 r6 r7 : Option yV} {x : Int} : zvc E (n + 1) zc_253 d xm_253 253 [r0, r1, r2, r3, r4, none, r6, r7] ((4, x) :: st) mem Post = (zvc E n zc_253 d xm_253 255 [r0, r1, r2, r3, r4, none, some (4, x), none] (st) mem Post) := zrf rfl
theorem s_253_253i {E : yE} {n d : Nat} {mem : yMem} {Post : Option yV → yMem → Prop} {st : List yV} {r0 r1 r2 r3 r4 r6 r7 : Option yV} {x w : Int} : zvc E (n + 1) zc_253 d xm_253 253 [r0, r1, r2, r3, r4, some (0, w), r6, r7] ((4, x) :: st) mem Post = (zvc E n zc_253 d xm_253 255 [r0, r1, r2, r3, r4, some (0, w), some (4, x), none] (st) mem Post) := zrf rfl
theorem s_253_253p {E : yE} {n d : Nat} {mem : yMem} {Post : Option yV → yMem → Prop} {st : List yV} {r0 r1 r2 r3 r4 r6 r7 : Option yV} {x w : Int} : zvc E (n + 1) zc_253 d xm_253 253 [r0, r1, r2, r3, r4, some (1, w), r6, r7] ((4, x) :: st) mem Post = (zvc E n zc_253 d xm_253 255 [r0, r1, r2, r3, r4, some (1, w), some (4, x), none] (st) mem Post) := zrf rfl
theorem s_253_253l {E : yE} {n d : Nat} {mem : yMem} {Post : Option yV → yMem → Prop} {st : List yV} {r0 r1 r2 r3 r4 r6 r7 : Option yV} {x w : Int} : zvc E (n + 1) zc_253 d xm_253 253 [r0, r1, r2, r3, r4, some (4, w), r6, r7] ((4, x) :: st) mem Post = (zvc E n zc_253 d xm_253 255 [r0, r1, r2, r3, r4, none, some (4, x), none] (st) mem Post) := zrf rfl
theorem s_253_253j {E : yE} {n d : Nat} {mem : yMem} {Post : Option yV → yMem → Prop} {st : List yV} {r0 r1 r2 r3 r4 r5 r6 r7 : Option yV} {x : Int} : zvc E (n + 1) zc_253 d xm_253 253 [r0, r1, r2, r3, r4, r5, r6, r7] ((4, x) :: st) mem Post = (zvc E n zc_253 d xm_253 255 [r0, r1, r2, r3, r4, znl r5, some (4, x), none] (st) mem Post) := zrf rfl
theorem s_253_255 {E : yE} {n d : Nat} {mem : yMem} {Post : Option yV → yMem → Prop} {st : List yV} {r0 r1 r2 r3 r4 r5 r6 r7 : Option yV} : zvc E (n + 1) zc_253 d xm_253 255 [r0, r1, r2, r3, r4, r5, r6, r7] (st) mem Post = (zvc E n zc_253 d xm_253 407 [r0, r1, r2, r3, r4, r5, r6, r7] (st) mem Post) := zrf rfl
theorem s_253_258 {E : yE} {n d : Nat} {mem : yMem} {Post : Option yV → yMem → Prop} {st : List yV} {r0 r1 r2 r3 r5 r6 r7 : Option yV} {x : Int} : zvc E (n + 1) zc_253 d xm_253 258 [r0, r1, r2, r3, some (4, x), r5, r6, r7] (st) mem Post = (zvc E n zc_253 d xm_253 260 [r0, r1, r2, r3, some (4, x), r5, r6, r7] ((4, x) :: st) mem Post) := zrf rfl
theorem s_253_260 {E : yE} {n d : Nat} {mem : yMem} {Post : Option yV → yMem → Prop} {st : List yV} {r0 r1 r3 r4 r5 r6 r7 : Option yV} {x : Int} : zvc E (n + 1) zc_253 d xm_253 260 [r0, r1, some (4, x), r3, r4, r5, r6, r7] (st) mem Post = (zvc E n zc_253 d xm_253 261 [r0, r1, some (4, x), r3, r4, r5, r6, r7] ((4, x) :: st) mem Post) := zrf rfl
theorem s_253_261 {E : yE} {n d : Nat} {mem : yMem} {Post : Option yV → yMem → Prop} {st : List yV} {r0 r1 r2 r3 r4 r5 r6 r7 : Option yV} {x y : Int} : zvc E (n + 1) zc_253 d xm_253 261 [r0, r1, r2, r3, r4, r5, r6, r7] ((4, y) :: (4, x) :: st) mem Post = (zvc E n zc_253 d xm_253 262 [r0, r1, r2, r3, r4, r5, r6, r7] ((0, ycmp x y) :: st) mem Post) := zrf rfl
theorem s_253_262 {E : yE} {n d : Nat} {mem : yMem} {Post : Option yV → yMem → Prop} {st : List yV} {r0 r1 r2 r3 r4 r5 r6 r7 : Option yV} {x : Int} : zvc E (n + 1) zc_253 d xm_253 262 [r0, r1, r2, r3, r4, r5, r6, r7] ((0, x) :: st) mem Post = ((w32 x ≤ w32 0 → zvc E n zc_253 d xm_253 269 [r0, r1, r2, r3, r4, r5, r6, r7] (st) mem Post) ∧ (¬ (w32 x ≤ w32 0) → zvc E n zc_253 d xm_253 265 [r0, r1, r2, r3, r4, r5, r6, r7] (st) mem Post)) := zrf rfl
theorem s_253_265 {E : yE} {n d : Nat} {mem : yMem} {Post : Option yV → yMem → Prop} {st : List yV} {r0 r1 r2 r3 r4 r5 r6 r7 : Option yV} : zvc E (n + 1) zc_253 d xm_253 265 [r0, r1, r2, r3, r4, r5, r6, r7] (st) mem Post = (zvc E n zc_253 d xm_253 266 [r0, r1, r2, r3, r4, r5, r6, r7] ((0, 1) :: st) mem Post) := zrf rfl
theorem s_253_266 {E : yE} {n d : Nat} {mem : yMem} {Post : Option yV → yMem → Prop} {st : List yV} {r0 r1 r2 r3 r4 r5 r6 r7 : Option yV} : zvc E (n + 1) zc_253 d xm_253 266 [r0, r1, r2, r3, r4, r5, r6, r7] (st) mem Post = (zvc E n zc_253 d xm_253 270 [r0, r1, r2, r3, r4, r5, r6, r7] (st) mem Post) := zrf rfl
theorem s_253_269 {E : yE} {n d : Nat} {mem : yMem} {Post : Option yV → yMem → Prop} {st : List yV} {r0 r1 r2 r3 r4 r5 r6 r7 : Option yV} : zvc E (n + 1) zc_253 d xm_253 269 [r0, r1, r2, r3, r4, r5, r6, r7] (st) mem Post = (zvc E n zc_253 d xm_253 270 [r0, r1, r2, r3, r4, r5, r6, r7] ((0, 0) :: st) mem Post) := zrf rfl
theorem s_253_270 {E : yE} {n d : Nat} {mem : yMem} {Post : Option yV → yMem → Prop} {st : List yV} {r0 r1 r2 r3 r4 r5 r6 r7 : Option yV} {a0 : Int} : zvc E (n + 1) zc_253 (d + 1) xm_253 270 [r0, r1, r2, r3, r4, r5, r6, r7] ((0, a0) :: st) mem Post = (True ∧ ysum st ≤ 8 ∧ zvc E n [] d xm_181 0 [some (0, a0)] [] mem (fun v mem' => zvk E n zc_253 (d + 1) xm_253 273 [r0, r1, r2, r3, r4, r5, r6, r7] st v mem' Post)) := zrf rfl
theorem s_253_273n {E : yE} {n d : Nat} {mem : yMem} {Post : Option yV → yMem → Prop} {st : List yV} {r0 r1 r2 r3 r4 r6 r7 : Option yV} {x : Int} : zvc E (n + 1) zc_253 d xm_253 273 [r0, r1, r2, r3, r4, none, r6, r7] ((4, x) :: st) mem Post = (zvc E n zc_253 d xm_253 275 [r0, r1, r2, r3, r4, none, some (4, x), none] (st) mem Post) := zrf rfl
theorem s_253_273i {E : yE} {n d : Nat} {mem : yMem} {Post : Option yV → yMem → Prop} {st : List yV} {r0 r1 r2 r3 r4 r6 r7 : Option yV} {x w : Int} : zvc E (n + 1) zc_253 d xm_253 273 [r0, r1, r2, r3, r4, some (0, w), r6, r7] ((4, x) :: st) mem Post = (zvc E n zc_253 d xm_253 275 [r0, r1, r2, r3, r4, some (0, w), some (4, x), none] (st) mem Post) := zrf rfl
theorem s_253_273p {E : yE} {n d : Nat} {mem : yMem} {Post : Option yV → yMem → Prop} {st : List yV} {r0 r1 r2 r3 r4 r6 r7 : Option yV} {x w : Int} : zvc E (n + 1) zc_253 d xm_253 273 [r0, r1, r2, r3, r4, some (1, w), r6, r7] ((4, x) :: st) mem Post = (zvc E n zc_253 d xm_253 275 [r0, r1, r2, r3, r4, some (1, w), some (4, x), none] (st) mem Post) := zrf rfl
theorem s_253_273l {E : yE} {n d : Nat} {mem : yMem} {Post : Option yV → yMem → Prop} {st : List yV} {r0 r1 r2 r3 r4 r6 r7 : Option yV} {x w : Int} : zvc E (n + 1) zc_253 d xm_253 273 [r0, r1, r2, r3, r4, some (4, w), r6, r7] ((4, x) :: st) mem Post = (zvc E n zc_253 d xm_253 275 [r0, r1, r2, r3, r4, none, some (4, x), none] (st) mem Post) := zrf rfl
theorem s_253_273j {E : yE} {n d : Nat} {mem : yMem} {Post : Option yV → yMem → Prop} {st : List yV} {r0 r1 r2 r3 r4 r5 r6 r7 : Option yV} {x : Int} : zvc E (n + 1) zc_253 d xm_253 273 [r0, r1, r2, r3, r4, r5, r6, r7] ((4, x) :: st) mem Post = (zvc E n zc_253 d xm_253 275 [r0, r1, r2, r3, r4, znl r5, some (4, x), none] (st) mem Post) := zrf rfl
theorem s_253_275 {E : yE} {n d : Nat} {mem : yMem} {Post : Option yV → yMem → Prop} {st : List yV} {r0 r1 r2 r3 r4 r5 r6 r7 : Option yV} : zvc E (n + 1) zc_253 d xm_253 275 [r0, r1, r2, r3, r4, r5, r6, r7] (st) mem Post = (zvc E n zc_253 d xm_253 407 [r0, r1, r2, r3, r4, r5, r6, r7] (st) mem Post) := zrf rfl
theorem s_253_278 {E : yE} {n d : Nat} {mem : yMem} {Post : Option yV → yMem → Prop} {st : List yV} {r0 r1 r2 r3 r5 r6 r7 : Option yV} {x : Int} : zvc E (n + 1) zc_253 d xm_253 278 [r0, r1, r2, r3, some (4, x), r5, r6, r7] (st) mem Post = (zvc E n zc_253 d xm_253 280 [r0, r1, r2, r3, some (4, x), r5, r6, r7] ((4, x) :: st) mem Post) := zrf rfl
theorem s_253_280 {E : yE} {n d : Nat} {mem : yMem} {Post : Option yV → yMem → Prop} {st : List yV} {r0 r1 r3 r4 r5 r6 r7 : Option yV} {x : Int} : zvc E (n + 1) zc_253 d xm_253 280 [r0, r1, some (4, x), r3, r4, r5, r6, r7] (st) mem Post = (zvc E n zc_253 d xm_253 281 [r0, r1, some (4, x), r3, r4, r5, r6, r7] ((4, x) :: st) mem Post) := zrf rfl
theorem s_253_281 {E : yE} {n d : Nat} {mem : yMem} {Post : Option yV → yMem → Prop} {st : List yV} {r0 r1 r2 r3 r4 r5 r6 r7 : Option yV} {x y : Int} : zvc E (n + 1) zc_253 d xm_253 281 [r0, r1, r2, r3, r4, r5, r6, r7] ((4, y) :: (4, x) :: st) mem Post = (zvc E n zc_253 d xm_253 282 [r0, r1, r2, r3, r4, r5, r6, r7] ((0, ycmp x y) :: st) mem Post) := zrf rfl
theorem s_253_282 {E : yE} {n d : Nat} {mem : yMem} {Post : Option yV → yMem → Prop} {st : List yV} {r0 r1 r2 r3 r4 r5 r6 r7 : Option yV} {x : Int} : zvc E (n + 1) zc_253 d xm_253 282 [r0, r1, r2, r3, r4, r5, r6, r7] ((0, x) :: st) mem Post = ((¬ w32 x = w32 0 → zvc E n zc_253 d xm_253 289 [r0, r1, r2, r3, r4, r5, r6, r7] (st) mem Post) ∧ (¬ (¬ w32 x = w32 0) → zvc E n zc_253 d xm_253 285 [r0, r1, r2, r3, r4, r5, r6, r7] (st) mem Post)) := zrf rfl
theorem s_253_285 {E : yE} {n d : Nat} {mem : yMem} {Post : Option yV → yMem → Prop} {st : List yV} {r0 r1 r2 r3 r4 r5 r6 r7 : Option yV} : zvc E (n + 1) zc_253 d xm_253 285 [r0, r1, r2, r3, r4, r5, r6, r7] (st) mem Post = (zvc E n zc_253 d xm_253 286 [r0, r1, r2, r3, r4, r5, r6, r7] ((0, 1) :: st) mem Post) := zrf rfl
theorem s_253_286 {E : yE} {n d : Nat} {mem : yMem} {Post : Option yV → yMem → Prop} {st : List yV} {r0 r1 r2 r3 r4 r5 r6 r7 : Option yV} : zvc E (n + 1) zc_253 d xm_253 286 [r0, r1, r2, r3, r4, r5, r6, r7] (st) mem Post = (zvc E n zc_253 d xm_253 290 [r0, r1, r2, r3, r4, r5, r6, r7] (st) mem Post) := zrf rfl
theorem s_253_289 {E : yE} {n d : Nat} {mem : yMem} {Post : Option yV → yMem → Prop} {st : List yV} {r0 r1 r2 r3 r4 r5 r6 r7 : Option yV} : zvc E (n + 1) zc_253 d xm_253 289 [r0, r1, r2, r3, r4, r5, r6, r7] (st) mem Post = (zvc E n zc_253 d xm_253 290 [r0, r1, r2, r3, r4, r5, r6, r7] ((0, 0) :: st) mem Post) := zrf rfl
theorem s_253_290 {E : yE} {n d : Nat} {mem : yMem} {Post : Option yV → yMem → Prop} {st : List yV} {r0 r1 r2 r3 r4 r5 r6 r7 : Option yV} {a0 : Int} : zvc E (n + 1) zc_253 (d + 1) xm_253 290 [r0, r1, r2, r3, r4, r5, r6, r7] ((0, a0) :: st) mem Post = (True ∧ ysum st ≤ 8 ∧ zvc E n [] d xm_181 0 [some (0, a0)] [] mem (fun v mem' => zvk E n zc_253 (d + 1) xm_253 293 [r0, r1, r2, r3, r4, r5, r6, r7] st v mem' Post)) := zrf rfl
theorem s_253_293n {E : yE} {n d : Nat} {mem : yMem} {Post : Option yV → yMem → Prop} {st : List yV} {r0 r1 r2 r3 r4 r6 r7 : Option yV} {x : Int} : zvc E (n + 1) zc_253 d xm_253 293 [r0, r1, r2, r3, r4, none, r6, r7] ((4, x) :: st) mem Post = (zvc E n zc_253 d xm_253 295 [r0, r1, r2, r3, r4, none, some (4, x), none] (st) mem Post) := zrf rfl
theorem s_253_293i {E : yE} {n d : Nat} {mem : yMem} {Post : Option yV → yMem → Prop} {st : List yV} {r0 r1 r2 r3 r4 r6 r7 : Option yV} {x w : Int} : zvc E (n + 1) zc_253 d xm_253 293 [r0, r1, r2, r3, r4, some (0, w), r6, r7] ((4, x) :: st) mem Post = (zvc E n zc_253 d xm_253 295 [r0, r1, r2, r3, r4, some (0, w), some (4, x), none] (st) mem Post) := zrf rfl
theorem s_253_293p {E : yE} {n d : Nat} {mem : yMem} {Post : Option yV → yMem → Prop} {st : List yV} {r0 r1 r2 r3 r4 r6 r7 : Option yV} {x w : Int} : zvc E (n + 1) zc_253 d xm_253 293 [r0, r1, r2, r3, r4, some (1, w), r6, r7] ((4, x) :: st) mem Post = (zvc E n zc_253 d xm_253 295 [r0, r1, r2, r3, r4, some (1, w), some (4, x), none] (st) mem Post) := zrf rfl
theorem s_253_293l {E : yE} {n d : Nat} {mem : yMem} {Post : Option yV → yMem → Prop} {st : List yV} {r0 r1 r2 r3 r4 r6 r7 : Option yV} {x w : Int} : zvc E (n + 1) zc_253 d xm_253 293 [r0, r1, r2, r3, r4, some (4, w), r6, r7] ((4, x) :: st) mem Post = (zvc E n zc_253 d xm_253 295 [r0, r1, r2, r3, r4, none, some (4, x), none] (st) mem Post) := zrf rfl
theorem s_253_293j {E : yE} {n d : Nat} {mem : yMem} {Post : Option yV → yMem → Prop} {st : List yV} {r0 r1 r2 r3 r4 r5 r6 r7 : Option yV} {x : Int} : zvc E (n + 1) zc_253 d xm_253 293 [r0, r1, r2, r3, r4, r5, r6, r7] ((4, x) :: st) mem Post = (zvc E n zc_253 d xm_253 295 [r0, r1, r2, r3, r4, znl r5, some (4, x), none] (st) mem Post) := zrf rfl
theorem s_253_295 {E : yE} {n d : Nat} {mem : yMem} {Post : Option yV → yMem → Prop} {st : List yV} {r0 r1 r2 r3 r4 r5 r6 r7 : Option yV} : zvc E (n + 1) zc_253 d xm_253 295 [r0, r1, r2, r3, r4, r5, r6, r7] (st) mem Post = (zvc E n zc_253 d xm_253 407 [r0, r1, r2, r3, r4, r5, r6, r7] (st) mem Post) := zrf rfl
theorem s_253_298 {E : yE} {n d : Nat} {mem : yMem} {Post : Option yV → yMem → Prop} {st : List yV} {r0 r1 r2 r3 r5 r6 r7 : Option yV} {x : Int} : zvc E (n + 1) zc_253 d xm_253 298 [r0, r1, r2, r3, some (4, x), r5, r6, r7] (st) mem Post = (zvc E n zc_253 d xm_253 300 [r0, r1, r2, r3, some (4, x), r5, r6, r7] ((4, x) :: st) mem Post) := zrf rfl
theorem s_253_300 {E : yE} {n d : Nat} {mem : yMem} {Post : Option yV → yMem → Prop} {st : List yV} {r0 r1 r3 r4 r5 r6 r7 : Option yV} {x : Int} : zvc E (n + 1) zc_253 d xm_253 300 [r0, r1, some (4, x), r3, r4, r5, r6, r7] (st) mem Post = (zvc E n zc_253 d xm_253 301 [r0, r1, some (4, x), r3, r4, r5, r6, r7] ((4, x) :: st) mem Post) := zrf rfl
theorem s_253_301 {E : yE} {n d : Nat} {mem : yMem} {Post : Option yV → yMem → Prop} {st : List yV} {r0 r1 r2 r3 r4 r5 r6 r7 : Option yV} {x y : Int} : zvc E (n + 1) zc_253 d xm_253 301 [r0, r1, r2, r3, r4, r5, r6, r7] ((4, y) :: (4, x) :: st) mem Post = (zvc E n zc_253 d xm_253 302 [r0, r1, r2, r3, r4, r5, r6, r7] ((0, ycmp x y) :: st) mem Post) := zrf rfl
theorem s_253_302 {E : yE} {n d : Nat} {mem : yMem} {Post : Option yV → yMem → Prop} {st : List yV} {r0 r1 r2 r3 r4 r5 r6 r7 : Option yV} {x : Int} : zvc E (n + 1) zc_253 d xm_253 302 [r0, r1, r2, r3, r4, r5, r6, r7] ((0, x) :: st) mem Post = ((w32 0 < w32 x → zvc E n zc_253 d xm_253 309 [r0, r1, r2, r3, r4, r5, r6, r7] (st) mem Post) ∧ (¬ (w32 0 < w32 x) → zvc E n zc_253 d xm_253 305 [r0, r1, r2, r3, r4, r5, r6, r7] (st) mem Post)) := zrf rfl
theorem s_253_305 {E : yE} {n d : Nat} {mem : yMem} {Post : Option yV → yMem → Prop} {st : List yV} {r0 r1 r2 r3 r4 r5 r6 r7 : Option yV} : zvc E (n + 1) zc_253 d xm_253 305 [r0, r1, r2, r3, r4, r5, r6, r7] (st) mem Post = (zvc E n zc_253 d xm_253 306 [r0, r1, r2, r3, r4, r5, r6, r7] ((0, 1) :: st) mem Post) := zrf rfl
theorem s_253_306 {E : yE} {n d : Nat} {mem : yMem} {Post : Option yV → yMem → Prop} {st : List yV} {r0 r1 r2 r3 r4 r5 r6 r7 : Option yV} : zvc E (n + 1) zc_253 d xm_253 306 [r0, r1, r2, r3, r4, r5, r6, r7] (st) mem Post = (zvc E n zc_253 d xm_253 310 [r0, r1, r2, r3, r4, r5, r6, r7] (st) mem Post) := zrf rfl
theorem s_253_309 {E : yE} {n d : Nat} {mem : yMem} {Post : Option yV → yMem → Prop} {st : List yV} {r0 r1 r2 r3 r4 r5 r6 r7 : Option yV} : zvc E (n + 1) zc_253 d xm_253 309 [r0, r1, r2, r3, r4, r5, r6, r7] (st) mem Post = (zvc E n zc_253 d xm_253 310 [r0, r1, r2, r3, r4, r5, r6, r7] ((0, 0) :: st) mem Post) := zrf rfl
theorem s_253_310 {E : yE} {n d : Nat} {mem : yMem} {Post : Option yV → yMem → Prop} {st : List yV} {r0 r1 r2 r3 r4 r5 r6 r7 : Option yV} {a0 : Int} : zvc E (n + 1) zc_253 (d + 1) xm_253 310 [r0, r1, r2, r3, r4, r5, r6, r7] ((0, a0) :: st) mem Post = (True ∧ ysum st ≤ 8 ∧ zvc E n [] d xm_181 0 [some (0, a0)] [] mem (fun v mem' => zvk E n zc_253 (d + 1) xm_253 313 [r0, r1, r2, r3, r4, r5, r6, r7] st v mem' Post)) := zrf rfl
theorem s_253_313n {E : yE} {n d : Nat} {mem : yMem} {Post : Option yV → yMem → Prop} {st : List yV} {r0 r1 r2 r3 r4 r6 r7 : Option yV} {x : Int} : zvc E (n + 1) zc_253 d xm_253 313 [r0, r1, r2, r3, r4, none, r6, r7] ((4, x) :: st) mem Post = (zvc E n zc_253 d xm_253 315 [r0, r1, r2, r3, r4, none, some (4, x), none] (st) mem Post) := zrf rfl
theorem s_253_313i {E : yE} {n d : Nat} {mem : yMem} {Post : Option yV → yMem → Prop} {st : List yV} {r0 r1 r2 r3 r4 r6 r7 : Option yV} {x w : Int} : zvc E (n + 1) zc_253 d xm_253 313 [r0, r1, r2, r3, r4, some (0, w), r6, r7] ((4, x) :: st) mem Post = (zvc E n zc_253 d xm_253 315 [r0, r1, r2, r3, r4, some (0, w), some (4, x), none] (st) mem Post) := zrf rfl
theorem s_253_313p {E : yE} {n d : Nat} {mem : yMem} {Post : Option yV → yMem → Prop} {st : List yV} {r0 r1 r2 r3 r4 r6 r7 : Option yV} {x w : Int} : zvc E (n + 1) zc_253 d xm_253 313 [r0, r1, r2, r3, r4, some (1, w), r6, r7] ((4, x) :: st) mem Post = (zvc E n zc_253 d xm_253 315 [r0, r1, r2, r3, r4, some (1, w), some (4, x), none] (st) mem Post) := zrf rfl
theorem s_253_313l {E : yE} {n d : Nat} {mem : yMem} {Post : Option yV → yMem → Prop} {st : List yV} {r0 r1 r2 r3 r4 r6 r7 : Option yV} {x w : Int} : zvc E (n + 1) zc_253 d xm_253 313 [r0, r1, r2, r3, r4, some (4, w), r6, r7] ((4, x) :: st) mem Post = (zvc E n zc_253 d xm_253 315 [r0, r1, r2, r3, r4, none, some (4, x), none] (st) mem Post) := zrf rfl
theorem s_253_313j {E : yE} {n d : Nat} {mem : yMem} {Post : Option yV → yMem → Prop} {st : List yV} {r0 r1 r2 r3 r4 r5 r6 r7 : Option yV} {x : Int} : zvc E (n + 1) zc_253 d xm_253 313 [r0, r1, r2, r3, r4, r5, r6, r7] ((4, x) :: st) mem Post = (zvc E n zc_253 d xm_253 315 [r0, r1, r2, r3, r4, znl r5, some (4, x), none] (st) mem Post) := zrf rfl
theorem s_253_315 {E : yE} {n d : Nat} {mem : yMem} {Post : Option yV → yMem → Prop} {st : List yV} {r0 r1 r2 r3 r4 r5 r6 r7 : Option yV} : zvc E (n + 1) zc_253 d xm_253 315 [r0, r1, r2, r3, r4, r5, r6, r7] (st) mem Post = (zvc E n zc_253 d xm_253 407 [r0, r1, r2, r3, r4, r5, r6, r7] (st) mem Post) := zrf rfl
theorem s_253_318 {E : yE} {n d : Nat} {mem : yMem} {Post : Option yV → yMem → Prop} {st : List yV} {r0 r1 r2 r3 r5 r6 r7 : Option yV} {x : Int} : zvc E (n + 1) zc_253 d xm_253 318 [r0, r1, r2, r3, some (4, x), r5, r6, r7] (st) mem Post = (zvc E n zc_253 d xm_253 320 [r0, r1, r2, r3, some (4, x), r5, r6, r7] ((4, x) :: st) mem Post) := zrf rfl
theorem s_253_320 {E : yE} {n d : Nat} {mem : yMem} {Post : Option yV → yMem → Prop} {st : List yV} {r0 r1 r3 r4 r5 r6 r7 : Option yV} {x : Int} : zvc E (n + 1) zc_253 d xm_253 320 [r0, r1, some (4, x), r3, r4, r5, r6, r7] (st) mem Post = (zvc E n zc_253 d xm_253 321 [r0, r1, some (4, x), r3, r4, r5, r6, r7] ((4, x) :: st) mem Post) := zrf rfl
theorem s_253_321 {E : yE} {n d : Nat} {mem : yMem} {Post : Option yV → yMem → Prop} {st : List yV} {r0 r1 r2 r3 r4 r5 r6 r7 : Option yV} {x y : Int} : zvc E (n + 1) zc_253 d xm_253 321 [r0, r1, r2, r3, r4, r5, r6, r7] ((4, y) :: (4, x) :: st) mem Post = (zvc E n zc_253 d xm_253 322 [r0, r1, r2, r3, r4, r5, r6, r7] ((0, ycmp x y) :: st) mem Post) := zrf rfl
theorem s_253_322 {E : yE} {n d : Nat} {mem : yMem} {Post : Option yV → yMem → Prop} {st : List yV} {r0 r1 r2 r3 r4 r5 r6 r7 : Option yV} {x : Int} : zvc E (n + 1) zc_253 d xm_253 322 [r0, r1, r2, r3, r4, r5, r6, r7] ((0, x) :: st) mem Post = ((w32 x < w32 0 → zvc E n zc_253 d xm_253 329 [r0, r1, r2, r3, r4, r5, r6, r7] (st) mem Post) ∧ (¬ (w32 x < w32 0) → zvc E n zc_253 d xm_253 325 [r0, r1, r2, r3, r4, r5, r6, r7] (st) mem Post)) := zrf rfl
theorem s_253_325 {E : yE} {n d : Nat} {mem : yMem} {Post : Option yV → yMem → Prop} {st : List yV} {r0 r1 r2 r3 r4 r5 r6 r7 : Option yV} : zvc E (n + 1) zc_253 d xm_253 325 [r0, r1, r2, r3, r4, r5, r6, r7] (st) mem Post = (zvc E n zc_253 d xm_253 326 [r0, r1, r2, r3, r4, r5, r6, r7] ((0, 1) :: st) mem Post) := zrf rfl
theorem s_253_326 {E : yE} {n d : Nat} {mem : yMem} {Post : Option yV → yMem → Prop} {st : List yV} {r0 r1 r2 r3 r4 r5 r6 r7 : Option yV} : zvc E (n + 1) zc_253 d xm_253 326 [r0, r1, r2, r3, r4, r5, r6, r7] (st) mem Post = (zvc E n zc_253 d xm_253 330 [r0, r1, r2, r3, r4, r5, r6, r7] (st) mem Post) := zrf rfl
theorem s_253_329 {E : yE} {n d : Nat} {mem : yMem} {Post : Option yV → yMem → Prop} {st : List yV} {r0 r1 r2 r3 r4 r5 r6 r7 : Option yV} : zvc E (n + 1) zc_253 d xm_253 329 [r0, r1, r2, r3, r4, r5, r6, r7] (st) mem Post = (zvc E n zc_253 d xm_253 330 [r0, r1, r2, r3, r4, r5, r6, r7] ((0, 0) :: st) mem Post) := zrf rfl
theorem s_253_330 {E : yE} {n d : Nat} {mem : yMem} {Post : Option yV → yMem → Prop} {st : List yV} {r0 r1 r2 r3 r4 r5 r6 r7 : Option yV} {a0 : Int} : zvc E (n + 1) zc_253 (d + 1) xm_253 330 [r0, r1, r2, r3, r4, r5, r6, r7] ((0, a0) :: st) mem Post = (True ∧ ysum st ≤ 8 ∧ zvc E n [] d xm_181 0 [some (0, a0)] [] mem (fun v mem' => zvk E n zc_253 (d + 1) xm_253 333 [r0, r1, r2, r3, r4, r5, r6, r7] st v mem' Post)) := zrf rfl
theorem s_253_333n {E : yE} {n d : Nat} {mem : yMem} {Post : Option yV → yMem → Prop} {st : List yV} {r0 r1 r2 r3 r4 r6 r7 : Option yV} {x : Int} : zvc E (n + 1) zc_253 d xm_253 333 [r0, r1, r2, r3, r4, none, r6, r7] ((4, x) :: st) mem Post = (zvc E n zc_253 d xm_253 335 [r0, r1, r2, r3, r4, none, some (4, x), none] (st) mem Post) := zrf rfl
theorem s_253_333i {E : yE} {n d : Nat} {mem : yMem} {Post : Option yV → yMem → Prop} {st : List yV} {r0 r1 r2 r3 r4 r6 r7 : Option yV} {x w : Int} : zvc E (n + 1) zc_253 d xm_253 333 [r0, r1, r2, r3, r4, some (0, w), r6, r7] ((4, x) :: st) mem Post = (zvc E n zc_253 d xm_253 335 [r0, r1, r2, r3, r4, some (0, w), some (4, x), none] (st) mem Post) := zrf rfl
theorem s_253_333p {E : yE} {n d : Nat} {mem : yMem} {Post : Option yV → yMem → Prop} {st : List yV} {r0 r1 r2 r3 r4 r6 r7 : Option yV} {x w : Int} : zvc E (n + 1) zc_253 d xm_253 333 [r0, r1, r2, r3, r4, some (1, w), r6, r7] ((4, x) :: st) mem Post = (zvc E n zc_253 d xm_253 335 [r0, r1, r2, r3, r4, some (1, w), some (4, x), none] (st) mem Post) := zrf rfl
theorem s_253_333l {E : yE} {n d : Nat} {mem : yMem} {Post : Option yV → yMem → Prop} {st : List yV} {r0 r1 r2 r3 r4 r6 r7 : Option yV} {x w : Int} : zvc E (n + 1) zc_253 d xm_253 333 [r0, r1, r2, r3, r4, some (4, w), r6, r7] ((4, x) :: st) mem Post = (zvc E n zc_253 d xm_253 335 [r0, r1, r2, r3, r4, none, some (4, x), none] (st) mem Post) := zrf rfl
theorem s_253_333j {E : yE} {n d : Nat} {mem : yMem} {Post : Option yV → yMem → Prop} {st : List yV} {r0 r1 r2 r3 r4 r5 r6 r7 : Option yV} {x : Int} : zvc E (n + 1) zc_253 d xm_253 333 [r0, r1, r2, r3, r4, r5, r6, r7] ((4, x) :: st) mem Post = (zvc E n zc_253 d xm_253 335 [r0, r1, r2, r3, r4, znl r5, some (4, x), none] (st) mem Post) := zrf rfl
theorem s_253_335 {E : yE} {n d : Nat} {mem : yMem} {Post : Option yV → yMem → Prop} {st : List yV} {r0 r1 r2 r3 r4 r5 r6 r7 : Option yV} : zvc E (n + 1) zc_253 d xm_253 335 [r0, r1, r2, r3, r4, r5, r6, r7] (st) mem Post = (zvc E n zc_253 d xm_253 407 [r0, r1, r2, r3, r4, r5, r6, r7] (st) mem Post) := zrf rfl
theorem s_253_338 {E : yE} {n d : Nat} {mem : yMem} {Post : Option yV → yMem → Prop} {st : List yV} {r0 r1 r2 r3 r5 r6 r7 : Option yV} {x : Int} : zvc E (n + 1) zc_253 d xm_253 338 [r0, r1, r2, r3, some (4, x), r5, r6, r7] (st) mem Post = (zvc E n zc_253 d xm_253 340 [r0, r1, r2, r3, some (4, x), r5, r6, r7] ((4, x) :: st) mem Post) := zrf rfl
theorem s_253_340 {E : yE} {n d : Nat} {mem : yMem} {Post : Option yV → yMem → Prop} {st : List yV} {r0 r1 r3 r4 r5 r6 r7 : Option yV} {x : Int} : zvc E (n + 1) zc_253 d xm_253 340 [r0, r1, some (4, x), r3, r4, r5, r6, r7] (st) mem Post = (zvc E n zc_253 d xm_253 341 [r0, r1, some (4, x), r3, r4, r5, r6, r7] ((4, x) :: st) mem Post) := zrf rfl
theorem s_253_341 {E : yE} {n d : Nat} {mem : yMem} {Post : Option yV → yMem → Prop} {st : List yV} {r0 r1 r2 r3 r4 r5 r6 r7 : Option yV} {x y : Int} : zvc E (n + 1) zc_253 d xm_253 341 [r0, r1, r2, r3, r4, r5, r6, r7] ((4, y) :: (4, x) :: st) mem Post = (zvc E n zc_253 d xm_253 342 [r0, r1, r2, r3, r4, r5, r6, r7] ((0, ycmp x y) :: st) mem Post) := zrf rfl
theorem s_253_342 {E : yE} {n d : Nat} {mem : yMem} {Post : Option yV → yMem → Prop} {st : List yV} {r0 r1 r2 r3 r4 r5 r6 r7 : Option yV} {x : Int} : zvc E (n + 1) zc_253 d xm_253 342 [r0, r1, r2, r3, r4, r5, r6, r7] ((0, x) :: st) mem Post = ((w32 x = w32 0 → zvc E n zc_253 d xm_253 349 [r0, r1, r2, r3, r4, r5, r6, r7] (st) mem Post) ∧ (¬ (w32 x = w32 0) → zvc E n zc_253 d xm_253 345 [r0, r1, r2, r3, r4, r5, r6, r7] (st) mem Post)) := zrf rfl
theorem s_253_345 {E : yE} {n d : Nat} {mem : yMem} {Post : Option yV → yMem → Prop} {st : List yV} {r0 r1 r2 r3 r4 r5 r6 r7 : Option yV} : zvc E (n + 1) zc_253 d xm_253 345 [r0, r1, r2, r3, r4, r5, r6, r7] (st) mem Post = (zvc E n zc_253 d xm_253 346 [r0, r1, r2, r3, r4, r5, r6, r7] ((0, 1) :: st) mem Post) := zrf rfl
theorem s_253_346 {E : yE} {n d : Nat} {mem : yMem} {Post : Option yV → yMem → Prop} {st : List yV} {r0 r1 r2 r3 r4 r5 r6 r7 : Option yV} : zvc E (n + 1) zc_253 d xm_253 346 [r0, r1, r2, r3, r4, r5, r6, r7] (st) mem Post = (zvc E n zc_253 d xm_253 350 [r0, r1, r2, r3, r4, r5, r6, r7] (st) mem Post) := zrf rfl
theorem s_253_349 {E : yE} {n d : Nat} {mem : yMem} {Post : Option yV → yMem → Prop} {st : List yV} {r0 r1 r2 r3 r4 r5 r6 r7 : Option yV} : zvc E (n + 1) zc_253 d xm_253 349 [r0, r1, r2, r3, r4, r5, r6, r7] (st) mem Post = (zvc E n zc_253 d xm_253 350 [r0, r1, r2, r3, r4, r5, r6, r7] ((0, 0) :: st) mem Post) := zrf rfl
theorem s_253_350 {E : yE} {n d : Nat} {mem : yMem} {Post : Option yV → yMem → Prop} {st : List yV} {r0 r1 r2 r3 r4 r5 r6 r7 : Option yV} {a0 : Int} : zvc E (n + 1) zc_253 (d + 1) xm_253 350 [r0, r1, r2, r3, r4, r5, r6, r7] ((0, a0) :: st) mem Post = (True ∧ ysum st ≤ 8 ∧ zvc E n [] d xm_181 0 [some (0, a0)] [] mem (fun v mem' => zvk E n zc_253 (d + 1) xm_253 353 [r0, r1, r2, r3, r4, r5, r6, r7] st v mem' Post)) := zrf rfl
theorem s_253_353n {E : yE} {n d : Nat} {mem : yMem} {Post : Option yV → yMem → Prop} {st : List yV} {r0 r1 r2 r3 r4 r6 r7 : Option yV} {x : Int} : zvc E (n + 1) zc_253 d xm_253 353 [r0, r1, r2, r3, r4, none, r6, r7] ((4, x) :: st) mem Post = (zvc E n zc_253 d xm_253 355 [r0, r1, r2, r3, r4, none, some (4, x), none] (st) mem Post) := zrf rfl
theorem s_253_353i {E : yE} {n d : Nat} {mem : yMem} {Post : Option yV → yMem → Prop} {st : List yV} {r0 r1 r2 r3 r4 r6 r7 : Option yV} {x w : Int} : zvc E (n + 1) zc_253 d xm_253 353 [r0, r1, r2, r3, r4, some (0, w), r6, r7] ((4, x) :: st) mem Post = (zvc E n zc_253 d xm_253 355 [r0, r1, r2, r3, r4, some (0, w), some (4, x), none] (st) mem Post) := zrf rfl
theorem s_253_353p {E : yE} {n d : Nat} {mem : yMem} {Post : Option yV → yMem → Prop} {st : List yV} {r0 r1 r2 r3 r4 r6 r7 : Option yV} {x w : Int} : zvc E (n + 1) zc_253 d xm_253 353 [r0, r1, r2, r3, r4, some (1, w), r6, r7] ((4, x) :: st) mem Post = (zvc E n zc_253 d xm_253 355 [r0, r1, r2, r3, r4, some (1, w), some (4, x), none] (st) mem Post) := zrf rfl
theorem s_253_353l {E : yE} {n d : Nat} {mem : yMem} {Post : Option yV → yMem → Prop} {st : List yV} {r0 r1 r2 r3 r4 r6 r7 : Option yV} {x w : Int} : zvc E (n + 1) zc_253 d xm_253 353 [r0, r1, r2, r3, r4, some (4, w), r6, r7] ((4, x) :: st) mem Post = (zvc E n zc_253 d xm_253 355 [r0, r1, r2, r3, r4, none, some (4, x), none] (st) mem Post) := zrf rfl
theorem s_253_353j {E : yE} {n d : Nat} {mem : yMem} {Post : Option yV → yMem → Prop} {st : List yV} {r0 r1 r2 r3 r4 r5 r6 r7 : Option yV} {x : Int} : zvc E (n + 1) zc_253 d xm_253 353 [r0, r1, r2, r3, r4, r5, r6, r7] ((4, x) :: st) mem Post = (zvc E n zc_253 d xm_253 355 [r0, r1, r2, r3, r4, znl r5, some (4, x), none] (st) mem Post) := zrf rfl
theorem s_253_355 {E : yE} {n d : Nat} {mem : yMem} {Post : Option yV → yMem → Prop} {st : List yV} {r0 r1 r2 r3 r4 r5 r6 r7 : Option yV} : zvc E (n + 1) zc_253 d xm_253 355 [r0, r1, r2, r3, r4, r5, r6, r7] (st) mem Post = (zvc E n zc_253 d xm_253 407 [r0, r1, r2, r3, r4, r5, r6, r7] (st) mem Post) := zrf rfl
theorem s_253_358 {E : yE} {n d : Nat} {mem : yMem} {Post : Option yV → yMem → Prop} {st : List yV} {r0 r1 r2 r3 r5 r6 r7 : Option yV} {x : Int} : zvc E (n + 1) zc_253 d xm_253 358 [r0, r1, r2, r3, some (4, x), r5, r6, r7] (st) mem Post = (zvc E n zc_253 d xm_253 360 [r0, r1, r2, r3, some (4, x), r5, r6, r7] ((4, x) :: st) mem Post) := zrf rfl
theorem s_253_360 {E : yE} {n d : Nat} {mem : yMem} {Post : Option yV → yMem → Prop} {st : List yV} {r0 r1 r2 r3 r4 r5 r6 r7 : Option yV} : zvc E (n + 1) zc_253 d xm_253 360 [r0, r1, r2, r3, r4, r5, r6, r7] (st) mem Post = (zvc E n zc_253 d xm_253 361 [r0, r1, r2, r3, r4, r5, r6, r7] ((4, 0) :: st) mem Post) := zrf rfl
theorem s_253_361 {E : yE} {n d : Nat} {mem : yMem} {Post : Option yV → yMem → Prop} {st : List yV} {r0 r1 r2 r3 r4 r5 r6 r7 : Option yV} {x y : Int} : zvc E (n + 1) zc_253 d xm_253 361 [r0, r1, r2, r3, r4, r5, r6, r7] ((4, y) :: (4, x) :: st) mem Post = (zvc E n zc_253 d xm_253 362 [r0, r1, r2, r3, r4, r5, r6, r7] ((0, ycmp x y) :: st) mem Post) := zrf rfl
theorem s_253_362 {E : yE} {n d : Nat} {mem : yMem} {Post : Option yV → yMem → Prop} {st : List yV} {r0 r1 r2 r3 r4 r5 r6 r7 : Option yV} {x : Int} : zvc E (n + 1) zc_253 d xm_253 362 [r0, r1, r2, r3, r4, r5, r6, r7] ((0, x) :: st) mem Post = ((w32 x = w32 0 → zvc E n zc_253 d xm_253 375 [r0, r1, r2, r3, r4, r5, r6, r7] (st) mem Post) ∧ (¬ (w32 x = w32 0) → zvc E n zc_253 d xm_253 365 [r0, r1, r2, r3, r4, r5, r6, r7] (st) mem Post)) := zrf rfl
theorem s_253_365 {E : yE} {n d : Nat} {mem : yMem} {Post : Option yV → yMem → Prop} {st : List yV} {r0 r1 r3 r4 r5 r6 r7 : Option yV} {x : Int} : zvc E (n + 1) zc_253 d xm_253 365 [r0, r1, some (4, x), r3, r4, r5, r6, r7] (st) mem Post = (zvc E n zc_253 d xm_253 366 [r0, r1, some (4, x), r3, r4, r5, r6, r7] ((4, x) :: st) mem Post) := zrf rfl
theorem s_253_366 {E : yE} {n d : Nat} {mem : yMem} {Post : Option yV → yMem → Prop} {st : List yV} {r0 r1 r2 r3 r4 r5 r6 r7 : Option yV} : zvc E (n + 1) zc_253 d xm_253 366 [r0, r1, r2, r3, r4, r5, r6, r7] (st) mem Post = (zvc E n zc_253 d xm_253 367 [r0, r1, r2, r3, r4, r5, r6, r7] ((4, 0) :: st) mem Post) := zrf rfl
theorem s_253_367 {E : yE} {n d : Nat} {mem : yMem} {Post : Option yV → yMem → Prop} {st : List yV} {r0 r1 r2 r3 r4 r5 r6 r7 : Option yV} {x y : Int} : zvc E (n + 1) zc_253 d xm_253 367 [r0, r1, r2, r3, r4, r5, r6, r7] ((4, y) :: (4, x) :: st) mem Post = (zvc E n zc_253 d xm_253 368 [r0, r1, r2, r3, r4, r5, r6, r7] ((0, ycmp x y) :: st) mem Post) := zrf rfl
theorem s_253_368 {E : yE} {n d : Nat} {mem : yMem} {Post : Option yV → yMem → Prop} {st : List yV} {r0 r1 r2 r3 r4 r5 r6 r7 : Option yV} {x : Int} : zvc E (n + 1) zc_253 d xm_253 368 [r0, r1, r2, r3, r4, r5, r6, r7] ((0, x) :: st) mem Post = ((w32 x = w32 0 → zvc E n zc_253 d xm_253 375 [r0, r1, r2, r3, r4, r5, r6, r7] (st) mem Post) ∧ (¬ (w32 x = w32 0) → zvc E n zc_253 d xm_253 371 [r0, r1, r2, r3, r4, r5, r6, r7] (st) mem Post)) := zrf rfl
theorem s_253_371 {E : yE} {n d : Nat} {mem : yMem} {Post : Option yV → yMem → Prop} {st : List yV} {r0 r1 r2 r3 r4 r5 r6 r7 : Option yV} : zvc E (n + 1) zc_253 d xm_253 371 [r0, r1, r2, r3, r4, r5, r6, r7] (st) mem Post = (zvc E n zc_253 d xm_253 372 [r0, r1, r2, r3, r4, r5, r6, r7] ((0, 1) :: st) mem Post) := zrf rfl
theorem s_253_372 {E : yE} {n d : Nat} {mem : yMem} {Post : Option yV → yMem → Prop} {st : List yV} {r0 r1 r2 r3 r4 r5 r6 r7 : Option yV} : zvc E (n + 1) zc_253 d xm_253 372 [r0, r1, r2, r3, r4, r5, r6, r7] (st) mem Post = (zvc E n zc_253 d xm_253 376 [r0, r1, r2, r3, r4, r5, r6, r7] (st) mem Post) := zrf rfl
theorem s_253_375 {E : yE} {n d : Nat} {mem : yMem} {Post : Option yV → yMem → Prop} {st : List yV} {r0 r1 r2 r3 r4 r5 r6 r7 : Option yV} : zvc E (n + 1) zc_253 d xm_253 375 [r0, r1, r2, r3, r4, r5, r6, r7] (st) mem Post = (zvc E n zc_253 d xm_253 376 [r0, r1, r2, r3, r4, r5, r6, r7] ((0, 0) :: st) mem Post) := zrf rfl
theorem s_253_376 {E : yE} {n d : Nat} {mem : yMem} {Post : Option yV → yMem → Prop} {st : List yV} {r0 r1 r2 r3 r4 r5 r6 r7 : Option yV} {a0 : Int} : zvc E (n + 1) zc_253 (d + 1) xm_253 376 [r0, r1, r2, r3, r4, r5, r6, r7] ((0, a0) :: st) mem Post = (True ∧ ysum st ≤ 8 ∧ zvc E n [] d xm_181 0 [some (0, a0)] [] mem (fun v mem' => zvk E n zc_253 (d + 1) xm_253 379 [r0, r1, r2, r3, r4, r5, r6, r7] st v mem' Post)) := zrf rfl
theorem s_253_379n {E : yE} {n d : Nat} {mem : yMem} {Post : Option yV → yMem → Prop} {st : List yV} {r0 r1 r2 r3 r4 r6 r7 : Option yV} {x : Int} : zvc E (n + 1) zc_253 d xm_253 379 [r0, r1, r2, r3, r4, none, r6, r7] ((4, x) :: st) mem Post = (zvc E n zc_253 d xm_253 381 [r0, r1, r2, r3, r4, none, some (4, x), none] (st) mem Post) := zrf rfl
theorem s_253_379i {E : yE} {n d : Nat} {mem : yMem} {Post : Option yV → yMem → Prop} {st : List yV} {r0 r1 r2 r3 r4 r6 r7 : Option yV} {x w : Int} : zvc E (n + 1) zc_253 d xm_253 379 [r0, r1, r2, r3, r4, some (0, w), r6, r7] ((4, x) :: st) mem Post = (zvc E n zc_253 d xm_253 381 [r0, r1, r2, r3, r4, some (0, w), some (4, x), none] (st) mem Post) := zrf rfl
theorem s_253_379p {E : yE} {n d : Nat} {mem : yMem} {Post : Option yV → yMem → Prop} {st : List yV} {r0 r1 r2 r3 r4 r6 r7 : Option yV} {x w : Int} : zvc E (n + 1) zc_253 d xm_253 379 [r0, r1, r2, r3, r4, some (1, w), r6, r7] ((4, x) :: st) mem Post = (zvc E n zc_253 d xm_253 381 [r0, r1, r2, r3, r4, some (1, w), some (4, x), none] (st) mem Post) := zrf rfl
theorem s_253_379l {E : yE} {n d : Nat} {mem : yMem} {Post : Option yV → yMem → Prop} {st : List yV} {r0 r1 r2 r3 r4 r6 r7 : Option yV} {x w : Int} : zvc E (n + 1) zc_253 d xm_253 379 [r0, r1, r2, r3, r4, some (4, w), r6, r7] ((4, x) :: st) mem Post = (zvc E n zc_253 d xm_253 381 [r0, r1, r2, r3, r4, none, some (4, x), none] (st) mem Post) := zrf rfl
theorem s_253_379j {E : yE} {n d : Nat} {mem : yMem} {Post : Option yV → yMem → Prop} {st : List yV} {r0 r1 r2 r3 r4 r5 r6 r7 : Option yV} {x : Int} : zvc E (n + 1) zc_253 d xm_253 379 [r0, r1, r2, r3, r4, r5, r6, r7] ((4, x) :: st) mem Post = (zvc E n zc_253 d xm_253 381 [r0, r1, r2, r3, r4, znl r5, some (4, x), none] (st) mem Post) := zrf rfl
theorem s_253_381 {E : yE} {n d : Nat} {mem : yMem} {Post : Option yV → yMem → Prop} {st : List yV} {r0 r1 r2 r3 r4 r5 r6 r7 : Option yV} : zvc E (n + 1) zc_253 d xm_253 381 [r0, r1, r2, r3, r4, r5, r6, r7] (st) mem Post = (zvc E n zc_253 d xm_253 407 [r0, r1, r2, r3, r4, r5, r6, r7] (st) mem Post) := zrf rfl
theorem s_253_384 {E : yE} {n d : Nat} {mem : yMem} {Post : Option yV → yMem → Prop} {st : List yV} {r0 r1 r2 r3 r5 r6 r7 : Option yV} {x : Int} : zvc E (n + 1) zc_253 d xm_253 384 [r0, r1, r2, r3, some (4, x), r5, r6, r7] (st) mem Post = (zvc E n zc_253 d xm_253 386 [r0, r1, r2, r3, some (4, x), r5, r6, r7] ((4, x) :: st) mem Post) := zrf rfl
theorem s_253_386 {E : yE} {n d : Nat} {mem : yMem} {Post : Option yV → yMem → Prop} {st : List yV} {r0 r1 r2 r3 r4 r5 r6 r7 : Option yV} : zvc E (n + 1) zc_253 d xm_253 386 [r0, r1, r2, r3, r4, r5, r6, r7] (st) mem Post = (zvc E n zc_253 d xm_253 387 [r0, r1, r2, r3, r4, r5, r6, r7] ((4, 0) :: st) mem Post) := zrf rfl
theorem s_253_387 {E : yE} {n d : Nat} {mem : yMem} {Post : Option yV → yMem → Prop} {st : List yV} {r0 r1 r2 r3 r4 r5 r6 r7 : Option yV} {x y : Int} : zvc E (n + 1) zc_253 d xm_253 387 [r0, r1, r2, r3, r4, r5, r6, r7] ((4, y) :: (4, x) :: st) mem Post = (zvc E n zc_253 d xm_253 388 [r0, r1, r2, r3, r4, r5, r6, r7] ((0, ycmp x y) :: st) mem Post) := zrf rfl
theorem s_253_388 {E : yE} {n d : Nat} {mem : yMem} {Post : Option yV → yMem → Prop} {st : List yV} {r0 r1 r2 r3 r4 r5 r6 r7 : Option yV} {x : Int} : zvc E (n + 1) zc_253 d xm_253 388 [r0, r1, r2, r3, r4, r5, r6, r7] ((0, x) :: st) mem Post = ((¬ w32 x = w32 0 → zvc E n zc_253 d xm_253 397 [r0, r1, r2, r3, r4, r5, r6, r7] (st) mem Post) ∧ (¬ (¬ w32 x = w32 0) → zvc E n zc_253 d xm_253 391 [r0, r1, r2, r3, r4, r5, r6, r7] (st) mem Post)) := zrf rfl
theorem s_253_391 {E : yE} {n d : Nat} {mem : yMem} {Post : Option yV → yMem → Prop} {st : List yV} {r0 r1 r3 r4 r5 r6 r7 : Option yV} {x : Int} : zvc E (n + 1) zc_253 d xm_253 391 [r0, r1, some (4, x), r3, r4, r5, r6, r7] (st) mem Post = (zvc E n zc_253 d xm_253 392 [r0, r1, some (4, x), r3, r4, r5, r6, r7] ((4, x) :: st) mem Post) := zrf rfl
theorem s_253_392 {E : yE} {n d : Nat} {mem : yMem} {Post : Option yV → yMem → Prop} {st : List yV} {r0 r1 r2 r3 r4 r5 r6 r7 : Option yV} : zvc E (n + 1) zc_253 d xm_253 392 [r0, r1, r2, r3, r4, r5, r6, r7] (st) mem Post = (zvc E n zc_253 d xm_253 393 [r0, r1, r2, r3, r4, r5, r6, r7] ((4, 0) :: st) mem Post) := zrf rfl
theorem s_253_393 {E : yE} {n d : Nat} {mem : yMem} {Post : Option yV → yMem → Prop} {st : List yV} {r0 r1 r2 r3 r4 r5 r6 r7 : Option yV} {x y : Int} : zvc E (n + 1) zc_253 d xm_253 393 [r0, r1, r2, r3, r4, r5, r6, r7] ((4, y) :: (4, x) :: st) mem Post = (zvc E n zc_253 d xm_253 394 [r0, r1, r2, r3, r4, r5, r6, r7] ((0, ycmp x y) :: st) mem Post) := zrf rfl
theorem s_253_394 {E : yE} {n d : Nat} {mem : yMem} {Post : Option yV → yMem → Prop} {st : List yV} {r0 r1 r2 r3 r4 r5 r6 r7 : Option yV} {x : Int} : zvc E (n + 1) zc_253 d xm_253 394 [r0, r1, r2, r3, r4, r5, r6, r7] ((0, x) :: st) mem Post = ((w32 x = w32 0 → zvc E n zc_253 d xm_253 401 [r0, r1, r2, r3, r4, r5, r6, r7] (st) mem Post) ∧ (¬ (w32 x = w32 0) → zvc E n zc_253 d xm_253 397 [r0, r1, r2, r3, r4, r5, r6, r7] (st) mem Post)) := zrf rfl
theorem s_253_397 {E : yE} {n d : Nat} {mem : yMem} {Post : Option yV → yMem → Prop} {st : List yV} {r0 r1 r2 r3 r4 r5 r6 r7 : Option yV} : zvc E (n + 1) zc_253 d xm_253 397 [r0, r1, r2, r3, r4, r5, r6, r7] (st) mem Post = (zvc E n zc_253 d xm_253 398 [r0, r1, r2, r3, r4, r5, r6, r7] ((0, 1) :: st) mem Post) := zrf rfl
theorem s_253_398 {E : yE} {n d : Nat} {mem : yMem} {Post : Option yV → yMem → Prop} {st : List yV} {r0 r1 r2 r3 r4 r5 r6 r7 : Option yV} : zvc E (n + 1) zc_253 d xm_253 398 [r0, r1, r2, r3, r4, r5, r6, r7] (st) mem Post = (zvc E n zc_253 d xm_253 402 [r0, r1, r2, r3, r4, r5, r6, r7] (st) mem Post) := zrf rfl
theorem s_253_401 {E : yE} {n d : Nat} {mem : yMem} {Post : Option yV → yMem → Prop} {st : List yV} {r0 r1 r2 r3 r4 r5 r6 r7 : Option yV} : zvc E (n + 1) zc_253 d xm_253 401 [r0, r1, r2, r3, r4, r5, r6, r7] (st) mem Post = (zvc E n zc_253 d xm_253 402 [r0, r1, r2, r3, r4, r5, r6, r7] ((0, 0) :: st) mem Post) := zrf rfl
theorem s_253_402 {E : yE} {n d : Nat} {mem : yMem} {Post : Option yV → yMem → Prop} {st : List yV} {r0 r1 r2 r3 r4 r5 r6 r7 : Option yV} {a0 : Int} : zvc E (n + 1) zc_253 (d + 1) xm_253 402 [r0, r1, r2, r3, r4, r5, r6, r7] ((0, a0) :: st) mem Post = (True ∧ ysum st ≤ 8 ∧ zvc E n [] d xm_181 0 [some (0, a0)] [] mem (fun v mem' => zvk E n zc_253 (d + 1) xm_253 405 [r0, r1, r2, r3, r4, r5, r6, r7] st v mem' Post)) := zrf rfl
theorem s_253_405n {E : yE} {n d : Nat} {mem : yMem} {Post : Option yV → yMem → Prop} {st : List yV} {r0 r1 r2 r3 r4 r6 r7 : Option yV} {x : Int} : zvc E (n + 1) zc_253 d xm_253 405 [r0, r1, r2, r3, r4, none, r6, r7] ((4, x) :: st) mem Post = (zvc E n zc_253 d xm_253 407 [r0, r1, r2, r3, r4, none, some (4, x), none] (st) mem Post) := zrf rfl
theorem s_253_405i {E : yE} {n d : Nat} {mem : yMem} {Post : Option yV → yMem → Prop} {st : List yV} {r0 r1 r2 r3 r4 r6 r7 : Option yV} {x w : Int} : zvc E (n + 1) zc_253 d xm_253 405 [r0, r1, r2, r3, r4, some (0, w), r6, r7] ((4, x) :: st) mem Post = (zvc E n zc_253 d xm_253 407 [r0, r1, r2, r3, r4, some (0, w), some (4, x), none] (st) mem Post) := zrf rfl
theorem s_253_405p {E : yE} {n d : Nat} {mem : yMem} {Post : Option yV → yMem → Prop} {st : List yV} {r0 r1 r2 r3 r4 r6 r7 : Option yV} {x w : Int} : zvc E (n + 1) zc_253 d xm_253 405 [r0, r1, r2, r3, r4, some (1, w), r6, r7] ((4, x) :: st) mem Post = (zvc E n zc_253 d xm_253 407 [r0, r1, r2, r3, r4, some (1, w), some (4, x), none] (st) mem Post) := zrf rfl
theorem s_253_405l {E : yE} {n d : Nat} {mem : yMem} {Post : Option yV → yMem → Prop} {st : List yV} {r0 r1 r2 r3 r4 r6 r7 : Option yV} {x w : Int} : zvc E (n + 1) zc_253 d xm_253 405 [r0, r1, r2, r3, r4, some (4, w), r6, r7] ((4, x) :: st) mem Post = (zvc E n zc_253 d xm_253 407 [r0, r1, r2, r3, r4, none, some (4, x), none] (st) mem Post) := zrf rfl
theorem s_253_405j {E : yE} {n d : Nat} {mem : yMem} {Post : Option yV → yMem → Prop} {st : List yV} {r0 r1 r2 r3 r4 r5 r6 r7 : Option yV} {x : Int} : zvc E (n + 1) zc_253 d xm_253 405 [r0, r1, r2, r3, r4, r5, r6, r7] ((4, x) :: st) mem Post = (zvc E n zc_253 d xm_253 407 [r0, r1, r2, r3, r4, znl r5, some (4, x), none] (st) mem Post) := zrf rfl
theorem g_253_407 {E : yE} {n d : Nat} {mem : yMem} {Post : Option yV → yMem → Prop} {st : List yV} {r1 r2 r3 r4 r5 r6 r7 : Option yV} {x : Int} : zgo E n zc_253 d xm_253 407 [some (1, x), r1, r2, r3, r4, r5, r6, r7] (st) mem Post = (zvc E n zc_253 d xm_253 408 [some (1, x), r1, r2, r3, r4, r5, r6, r7] ((1, x) :: st) mem Post) := zrf rfl
theorem k_253_407 {E : yE} {n d : Nat} {mem : yMem} {Post : Option yV → yMem → Prop} {st : List yV} {rg : zR} : zvc E (n + 1) zc_253 d xm_253 407 rg st mem Post = zG E d xm_253 407 rg st mem Post := zrf rfl
theorem s_253_408 {E : yE} {n d : Nat} {mem : yMem} {Post : Option yV → yMem → Prop} {st : List yV} {r0 r1 r2 r3 r4 r5 r6 r7 : Option yV} : zvc E (n + 1) zc_253 d xm_253 408 [r0, r1, r2, r3, r4, r5, r6, r7] ((1, 95) :: st) mem Post = (zvc E n zc_253 d xm_253 411 [r0, r1, r2, r3, r4, r5, r6, r7] ((1, 131) :: st) mem Post) := zrf rfl
theorem s_253_411 {E : yE} {n d : Nat} {mem : yMem} {Post : Option yV → yMem → Prop} {st : List yV} {r1 r2 r3 r4 r5 r6 r7 : Option yV} {x : Int} : zvc E (n + 1) zc_253 d xm_253 411 [some (1, x), r1, r2, r3, r4, r5, r6, r7] (st) mem Post = (zvc E n zc_253 d xm_253 412 [some (1, x), r1, r2, r3, r4, r5, r6, r7] ((1, x) :: st) mem Post) := zrf rfl
theorem s_253_412 {E : yE} {n d : Nat} {mem : yMem} {Post : Option yV → yMem → Prop} {st : List yV} {r0 r1 r2 r3 r4 r5 r6 r7 : Option yV} : zvc E (n + 1) zc_253 d xm_253 412 [r0, r1, r2, r3, r4, r5, r6, r7] ((1, 95) :: st) mem Post = (zvc E n zc_253 d xm_253 415 [r0, r1, r2, r3, r4, r5, r6, r7] ((0, mem 95 52) :: st) mem Post) := zrf rfl
theorem s_253_415 {E : yE} {n d : Nat} {mem : yMem} {Post : Option yV → yMem → Prop} {st : List yV} {r0 r1 r2 r3 r4 r5 r6 r7 : Option yV} : zvc E (n + 1) zc_253 d xm_253 415 [r0, r1, r2, r3, r4, r5, r6, r7] (st) mem Post = (zvc E n zc_253 d xm_253 416 [r0, r1, r2, r3, r4, r5, r6, r7] ((0, 1) :: st) mem Post) := zrf rfl
theorem s_253_416 {E : yE} {n d : Nat} {mem : yMem} {Post : Option yV → yMem → Prop} {st : List yV} {r0 r1 r2 r3 r4 r5 r6 r7 : Option yV} {x y : Int} : zvc E (n + 1) zc_253 d xm_253 416 [r0, r1, r2, r3, r4, r5, r6, r7] ((0, y) :: (0, x) :: st) mem Post = (zvc E n zc_253 d xm_253 417 [r0, r1, r2, r3, r4, r5, r6, r7] ((0, x - y) :: st) mem Post) := zrf rfl
theorem s_253_417 {E : yE} {n d : Nat} {mem : yMem} {Post : Option yV → yMem → Prop} {st : List yV} {r0 r1 r2 r3 r4 r5 r7 : Option yV} {x : Int} : zvc E (n + 1) zc_253 d xm_253 417 [r0, r1, r2, r3, r4, r5, some (4, x), r7] (st) mem Post = (zvc E n zc_253 d xm_253 419 [r0, r1, r2, r3, r4, r5, some (4, x), r7] ((4, x) :: st) mem Post) := zrf rfl
theorem s_253_419 {E : yE} {n d : Nat} {mem : yMem} {Post : Option yV → yMem → Prop} {st : List yV} {r0 r1 r2 r3 r4 r5 r6 r7 : Option yV} {x z j : Int} : zvc E (n + 1) zc_253 d xm_253 419 [r0, r1, r2, r3, r4, r5, r6, r7] ((4, x) :: (0, j) :: (1, z) :: st) mem Post = ((0 ≤ w32 j ∧ w32 j < ((zar z 2 : Nat) : Int)) ∧ zvc E n zc_253 d xm_253 420 [r0, r1, r2, r3, r4, r5, r6, r7] (st) (yset mem z.toNat (w32 j).toNat x) Post) := zrf rfl
theorem s_253_420 {E : yE} {n d : Nat} {mem : yMem} {Post : Option yV → yMem → Prop} {st : List yV} {r0 r1 r2 r3 r4 r5 r7 : Option yV} {x : Int} : zvc E (n + 1) zc_253 d xm_253 420 [r0, r1, r2, r3, r4, r5, some (4, x), r7] (st) mem Post = (zvc E n zc_253 d xm_253 422 [r0, r1, r2, r3, r4, r5, some (4, x), r7] ((4, x) :: st) mem Post) := zrf rfl
theorem s_253_422 {E : yE} {n d : Nat} {mem : yMem} {Post : Option yV → yMem → Prop} {st : List yV} {r0 r1 r2 r3 r4 r5 r6 r7 : Option yV} : zvc E (n + 1) zc_253 d xm_253 422 [r0, r1, r2, r3, r4, r5, r6, r7] (st) mem Post = (zvc E n zc_253 d xm_253 425 [r0, r1, r2, r3, r4, r5, r6, r7] ((4, 1000000000000) :: st) mem Post) := zrf rfl
theorem s_253_425 {E : yE} {n d : Nat} {mem : yMem} {Post : Option yV → yMem → Prop} {st : List yV} {r0 r1 r2 r3 r4 r5 r6 r7 : Option yV} {x y : Int} : zvc E (n + 1) zc_253 d xm_253 425 [r0, r1, r2, r3, r4, r5, r6, r7] ((4, y) :: (4, x) :: st) mem Post = (zvc E n zc_253 d xm_253 426 [r0, r1, r2, r3, r4, r5, r6, r7] ((0, ycmp x y) :: st) mem Post) := zrf rfl
theorem s_253_426 {E : yE} {n d : Nat} {mem : yMem} {Post : Option yV → yMem → Prop} {st : List yV} {r0 r1 r2 r3 r4 r5 r6 r7 : Option yV} {x : Int} : zvc E (n + 1) zc_253 d xm_253 426 [r0, r1, r2, r3, r4, r5, r6, r7] ((0, x) :: st) mem Post = ((w32 0 < w32 x → zvc E n zc_253 d xm_253 442 [r0, r1, r2, r3, r4, r5, r6, r7] (st) mem Post) ∧ (¬ (w32 0 < w32 x) → zvc E n zc_253 d xm_253 429 [r0, r1, r2, r3, r4, r5, r6, r7] (st) mem Post)) := zrf rfl
theorem s_253_429 {E : yE} {n d : Nat} {mem : yMem} {Post : Option yV → yMem → Prop} {st : List yV} {r0 r1 r2 r3 r4 r5 r7 : Option yV} {x : Int} : zvc E (n + 1) zc_253 d xm_253 429 [r0, r1, r2, r3, r4, r5, some (4, x), r7] (st) mem Post = (zvc E n zc_253 d xm_253 431 [r0, r1, r2, r3, r4, r5, some (4, x), r7] ((4, x) :: st) mem Post) := zrf rfl
theorem s_253_431 {E : yE} {n d : Nat} {mem : yMem} {Post : Option yV → yMem → Prop} {st : List yV} {r0 r1 r2 r3 r4 r5 r6 r7 : Option yV} : zvc E (n + 1) zc_253 d xm_253 431 [r0, r1, r2, r3, r4, r5, r6, r7] (st) mem Post = (zvc E n zc_253 d xm_253 434 [r0, r1, r2, r3, r4, r5, r6, r7] ((4, (-1000000000000)) :: st) mem Post) := zrf rfl
theorem s_253_434 {E : yE} {n d : Nat} {mem : yMem} {Post : Option yV → yMem → Prop} {st : List yV} {r0 r1 r2 r3 r4 r5 r6 r7 : Option yV} {x y : Int} : zvc E (n + 1) zc_253 d xm_253 434 [r0, r1, r2, r3, r4, r5, r6, r7] ((4, y) :: (4, x) :: st) mem Post = (zvc E n zc_253 d xm_253 435 [r0, r1, r2, r3, r4, r5, r6, r7] ((0, ycmp x y) :: st) mem Post) := zrf rfl
theorem s_253_435 {E : yE} {n d : Nat} {mem : yMem} {Post : Option yV → yMem → Prop} {st : List yV} {r0 r1 r2 r3 r4 r5 r6 r7 : Option yV} {x : Int} : zvc E (n + 1) zc_253 d xm_253 435 [r0, r1, r2, r3, r4, r5, r6, r7] ((0, x) :: st) mem Post = ((w32 x < w32 0 → zvc E n zc_253 d xm_253 442 [r0, r1, r2, r3, r4, r5, r6, r7] (st) mem Post) ∧ (¬ (w32 x < w32 0) → zvc E n zc_253 d xm_253 438 [r0, r1, r2, r3, r4, r5, r6, r7] (st) mem Post)) := zrf rfl
theorem s_253_438 {E : yE} {n d : Nat} {mem : yMem} {Post : Option yV → yMem → Prop} {st : List yV} {r0 r1 r2 r3 r4 r5 r6 r7 : Option yV} : zvc E (n + 1) zc_253 d xm_253 438 [r0, r1, r2, r3, r4, r5, r6, r7] (st) mem Post = (zvc E n zc_253 d xm_253 439 [r0, r1, r2, r3, r4, r5, r6, r7] ((0, 1) :: st) mem Post) := zrf rfl
theorem s_253_439 {E : yE} {n d : Nat} {mem : yMem} {Post : Option yV → yMem → Prop} {st : List yV} {r0 r1 r2 r3 r4 r5 r6 r7 : Option yV} : zvc E (n + 1) zc_253 d xm_253 439 [r0, r1, r2, r3, r4, r5, r6, r7] (st) mem Post = (zvc E n zc_253 d xm_253 443 [r0, r1, r2, r3, r4, r5, r6, r7] (st) mem Post) := zrf rfl
theorem s_253_442 {E : yE} {n d : Nat} {mem : yMem} {Post : Option yV → yMem → Prop} {st : List yV} {r0 r1 r2 r3 r4 r5 r6 r7 : Option yV} : zvc E (n + 1) zc_253 d xm_253 442 [r0, r1, r2, r3, r4, r5, r6, r7] (st) mem Post = (zvc E n zc_253 d xm_253 443 [r0, r1, r2, r3, r4, r5, r6, r7] ((0, 0) :: st) mem Post) := zrf rfl
theorem s_253_443 {E : yE} {n d : Nat} {mem : yMem} {Post : Option yV → yMem → Prop} {r0 r1 r2 r3 r4 r5 r6 r7 : Option yV} {x : Int} : zvc E (n + 1) zc_253 d xm_253 443 [r0, r1, r2, r3, r4, r5, r6, r7] ([(0, x)]) mem Post = ((w32 x = 0 ∨ w32 x = 1) ∧ Post (some (0, x)) mem) := zrf rfl
theorem e_181 {E : yE} {d : Nat} {mem : yMem} {Q : Option yV → yMem → Prop} {a0 : Int} (h : zG E d xm_181 0 [some (0, a0)] [] mem Q) : yCon E (d + 1) xm_181 [(0, a0)] mem Q := zcon_of xmo_181 (Nat.le_of_ble_eq_true rfl) h
theorem e_253 {E : yE} {d : Nat} {mem : yMem} {Q : Option yV → yMem → Prop} {z a0 : Int} (h : zG E d xm_253 0 [some (1, z), some (0, a0), none, none, none, none, none, none] [] mem Q) : yCon E (d + 1) xm_253 [(1, z), (0, a0)] mem Q := zcon_of xmo_253 (Nat.le_of_ble_eq_true rfl) h

theorem aFrm_set {w : List (Nat × Nat)} {mem mem' : yMem} (h : aFrm w mem mem') {i j : Nat} {x : Int} (hm : amod w i j = true) : aFrm w mem (yset mem' i j x) := by
  intro a b hab
  unfold yset
  split
  · next e =>
    subst e
    split
    · next e => subst e; rw [hm] at hab; cases hab
    · exact h a b hab
  · exact h a b hab
theorem aFrm_rf {w : List (Nat × Nat)} {mem : yMem} : aFrm w mem mem := fun _ _ _ => rfl
theorem w64_ng {x : Int} (h : ¬ w64 x = 0) : ¬ w64 (-x) = 0 := by
  intro e
  apply h
  have : lI (-x) = 0 := Int64.toInt_inj.mp e
  rw [show lI (-x) = -lI x from Int64.ofInt_neg x] at this
  have e2 : lI x = 0 := by
    rw [show lI x = -(-lI x) from Int64.neg_neg.symm, this]
    decide
  show (lI x).toInt = 0
  rw [e2]; rfl
theorem ycmp_n {x y : Int} (h : ¬ w32 (ycmp x y) = 0) : ¬ w64 x = w64 y := by
  intro e
  apply h
  unfold ycmp
  rw [e]
  simp only [Int.lt_irrefl, if_false, if_true]
  decide
/-- the end of works -/
theorem works_end {E : yE} (hE : yEok E) {d : Nat} {mem : yMem} {Q : Option yV → yMem → Prop} {v : Int} {r1 r2 r3 r4 r5 r7 : Option yV} (h1 : 1 ≤ w32 (mem 95 52)) (h3 : w32 (mem 95 52) ≤ 64) (hQ : ∀ x mem', x = 0 ∨ x = 1 → aFrm [(131, 0)] mem mem' → Q (some (0, x)) mem') : zG E d xm_253 407 [some (1, 95), r1, r2, r3, r4, r5, some (4, v), r7] [] mem Q := by
  refine zgo_ok (n := 60) hE xmo_253 (cs := zc_253) ?_
  have e1 : w32 (mem 95 52 - 1) = w32 (mem 95 52) - 1 := by rw [w32_sb (by rw [w32c_1]; omega) (by rw [w32c_1]; omega), w32c_1]
  simp only [ynok_30, ynok_31, w32c_0, w32c_1, w32c_2, w32c_3, w32c_4, w32c_5, w32c_6, w32c_7, w32c_8, w32c_9, w32c_10, w32c_11, w32c_12, w32c_13, w32c_14, w32c_m1, w32c_m2, w32c_118, Int.reduceAdd, Int.reduceSub, Int.reduceMul, yput_s, yput_n, znl_n, znl_0, znl_1, znl_4, ysum_n, ysum_0, ysum_1, ysum_4, true_and, and_true, Nat.reduceAdd, Nat.reduceLeDiff, true_implies, eq_self, true_or, or_true, or_false, false_or, not_true_eq_false, not_false_eq_true, false_implies, implies_true, yset_s, yset_o, yset_d, ne_eq, Nat.reduceEqDiff, Int.reduceToNat, Int.reduceEq, Int.reduceLE, Int.reduceLT, Classical.not_not, Nat.reduceLT, ↓zvk_s, ↓zvk_n, ↓s_253_0, ↓s_253_1, ↓s_253_4, ↓s_253_5, ↓s_253_8, ↓s_253_9, ↓s_253_10, ↓s_253_11n, ↓s_253_11i, ↓s_253_11p, ↓s_253_11l, ↓s_253_12, ↓s_253_13, ↓s_253_16, ↓s_253_19, ↓s_253_20, ↓s_253_23, ↓s_253_24, ↓s_253_27, ↓s_253_28, ↓s_253_29, ↓s_253_30, ↓s_253_31, ↓s_253_32, ↓s_253_35, ↓s_253_36, ↓s_253_39, ↓s_253_40, ↓s_253_43, ↓s_253_44, ↓s_253_45, ↓s_253_46, ↓s_253_47, ↓s_253_50, ↓s_253_51, ↓s_253_54, ↓s_253_55, ↓s_253_56, ↓s_253_57n, ↓s_253_57i, ↓s_253_57p, ↓s_253_57l, ↓s_253_59, ↓s_253_60a, ↓s_253_60b, ↓s_253_61, ↓s_253_64, ↓s_253_65, ↓s_253_66, ↓s_253_69, ↓s_253_70, ↓s_253_168, ↓s_253_170, ↓s_253_171, ↓s_253_172n, ↓s_253_172i, ↓s_253_172p, ↓s_253_172l, ↓s_253_174, ↓s_253_177, ↓s_253_179, ↓s_253_180, ↓s_253_181n, ↓s_253_181i, ↓s_253_181p, ↓s_253_181l, ↓s_253_183, ↓s_253_186, ↓s_253_188, ↓s_253_189, ↓s_253_190, ↓s_253_193, ↓s_253_194, ↓s_253_197, ↓s_253_200, ↓s_253_202, ↓s_253_205, ↓s_253_206, ↓s_253_207, ↓s_253_210, ↓s_253_211, ↓s_253_212, ↓s_253_214, ↓s_253_215, ↓s_253_216n, ↓s_253_216i, ↓s_253_216p, ↓s_253_216l, ↓s_253_218, ↓s_253_221, ↓s_253_222, ↓s_253_223, ↓s_253_224, ↓s_253_227, ↓s_253_228, ↓s_253_229, ↓s_253_231, ↓s_253_232, ↓s_253_233n, ↓s_253_233i, ↓s_253_233p, ↓s_253_233l, ↓s_253_235, ↓s_253_238, ↓s_253_240, ↓s_253_241, ↓s_253_242, ↓s_253_245, ↓s_253_246, ↓s_253_249, ↓s_253_250, ↓s_253_253n, ↓s_253_253i, ↓s_253_253p, ↓s_253_253l, ↓s_253_255, ↓s_253_258, ↓s_253_260, ↓s_253_261, ↓s_253_262, ↓s_253_265, ↓s_253_266, ↓s_253_269, ↓s_253_270, ↓s_253_273n, ↓s_253_273i, ↓s_253_273p, ↓s_253_273l, ↓s_253_275, ↓s_253_278, ↓s_253_280, ↓s_253_281, ↓s_253_282, ↓s_253_285, ↓s_253_286, ↓s_253_289, ↓s_253_290, ↓s_253_293n, ↓s_253_293i, ↓s_253_293p, ↓s_253_293l, ↓s_253_295, ↓s_253_298, ↓s_253_300, ↓s_253_301, ↓s_253_302, ↓s_253_305, ↓s_253_306, ↓s_253_309, ↓s_253_310, ↓s_253_313n, ↓s_253_313i, ↓s_253_313p, ↓s_253_313l, ↓s_253_315, ↓s_253_318, ↓s_253_320, ↓s_253_321, ↓s_253_322, ↓s_253_325, ↓s_253_326, ↓s_253_329, ↓s_253_330, ↓s_253_333n, ↓s_253_333i, ↓s_253_333p, ↓s_253_333l, ↓s_253_335, ↓s_253_338, ↓s_253_340, ↓s_253_341, ↓s_253_342, ↓s_253_345, ↓s_253_346, ↓s_253_349, ↓s_253_350, ↓s_253_353n, ↓s_253_353i, ↓s_253_353p, ↓s_253_353l, ↓s_253_355, ↓s_253_358, ↓s_253_360, ↓s_253_361, ↓s_253_362, ↓s_253_365, ↓s_253_366, ↓s_253_367, ↓s_253_368, ↓s_253_371, ↓s_253_372, ↓s_253_375, ↓s_253_376, ↓s_253_379n, ↓s_253_379i, ↓s_253_379p, ↓s_253_379l, ↓s_253_381, ↓s_253_384, ↓s_253_386, ↓s_253_387, ↓s_253_388, ↓s_253_391, ↓s_253_392, ↓s_253_393, ↓s_253_394, ↓s_253_397, ↓s_253_398, ↓s_253_401, ↓s_253_402, ↓s_253_405n, ↓s_253_405i, ↓s_253_405p, ↓s_253_405l, ↓g_253_407, ↓k_253_407, ↓s_253_408, ↓s_253_411, ↓s_253_412, ↓s_253_415, ↓s_253_416, ↓s_253_417, ↓s_253_419, ↓s_253_420, ↓s_253_422, ↓s_253_425, ↓s_253_426, ↓s_253_429, ↓s_253_431, ↓s_253_434, ↓s_253_435, ↓s_253_438, ↓s_253_439, ↓s_253_442, ↓s_253_443, w32c_260, zar_131, zia_131, zln_131, zit_131, zio_95]
  have hf : aFrm [(131, 0)] mem (yset mem 131 (w32 (mem 95 52 - 1)).toNat v) := aFrm_set aFrm_rf rfl
  refine ⟨⟨by omega, by rw [e1]; omega⟩, fun _ => hQ 0 _ (Or.inl rfl) hf, fun _ => ⟨fun _ => hQ 0 _ (Or.inl rfl) hf, fun _ => hQ 1 _ (Or.inr rfl) hf⟩⟩
set_option maxRecDepth 10000 in
theorem c_works {E : yE} (hE : yEok E) {D : Nat} (hD : 2 ≤ D) {mem : yMem} {Q : Option yV → yMem → Prop} {s : Int} (h1 : w32 s = 260 → 1 ≤ w32 (mem 95 52)) (h2 : ¬ w32 s = 260 → 2 ≤ w32 (mem 95 52)) (h3 : w32 (mem 95 52) ≤ 64) (hQ : ∀ x mem', x = 0 ∨ x = 1 → aFrm [(95, 53), (131, 0)] mem mem' → w32 (mem' 95 52) = (if w32 s = 260 then w32 (mem 95 52) else w32 (mem 95 52) - 1) → Q (some (0, x)) mem') : yCon E D xm_253 [(1, 95), (0, s)] mem Q := by
  obtain ⟨d, rfl⟩ := Nat.exists_eq_add_of_le' hD
  refine e_253 ?_
  refine zvc_ok hE 200 zc_253 _ _ _ _ _ _ _ xmo_253 ?_
  have hb : 1 ≤ w32 (mem 95 52) := by
    by_cases e : w32 s = 260
    · exact h1 e
    · have := h2 e; omega
  have e1 : w32 (mem 95 52 - 1) = w32 (mem 95 52) - 1 := by rw [w32_sb (by rw [w32c_1]; omega) (by rw [w32c_1]; omega), w32c_1]
  simp only [ynok_30, ynok_31, w32c_0, w32c_1, w32c_2, w32c_3, w32c_4, w32c_5, w32c_6, w32c_7, w32c_8, w32c_9, w32c_10, w32c_11, w32c_12, w32c_13, w32c_14, w32c_m1, w32c_m2, w32c_118, Int.reduceAdd, Int.reduceSub, Int.reduceMul, yput_s, yput_n, znl_n, znl_0, znl_1, znl_4, ysum_n, ysum_0, ysum_1, ysum_4, true_and, and_true, Nat.reduceAdd, Nat.reduceLeDiff, true_implies, eq_self, true_or, or_true, or_false, false_or, not_true_eq_false, not_false_eq_true, false_implies, implies_true, yset_s, yset_o, yset_d, ne_eq, Nat.reduceEqDiff, Int.reduceToNat, Int.reduceEq, Int.reduceLE, Int.reduceLT, Classical.not_not, Nat.reduceLT, ↓zvk_s, ↓zvk_n, ↓s_253_0, ↓s_253_1, ↓s_253_4, ↓s_253_5, ↓s_253_8, ↓s_253_9, ↓s_253_10, ↓s_253_11n, ↓s_253_11i, ↓s_253_11p, ↓s_253_11l, ↓s_253_12, ↓s_253_13, ↓s_253_16, ↓s_253_19, ↓s_253_20, ↓s_253_23, ↓s_253_24, ↓s_253_27, ↓s_253_28, ↓s_253_29, ↓s_253_30, ↓s_253_31, ↓s_253_32, ↓s_253_35, ↓s_253_36, ↓s_253_39, ↓s_253_40, ↓s_253_43, ↓s_253_44, ↓s_253_45, ↓s_253_46, ↓s_253_47, ↓s_253_50, ↓s_253_51, ↓s_253_54, ↓s_253_55, ↓s_253_56, ↓s_253_57n, ↓s_253_57i, ↓s_253_57p, ↓s_253_57l, ↓s_253_59, ↓s_253_60a, ↓s_253_60b, ↓s_253_61, ↓s_253_64, ↓s_253_65, ↓s_253_66, ↓s_253_69, ↓s_253_70, ↓s_253_168, ↓s_253_170, ↓s_253_171, ↓s_253_172n, ↓s_253_172i, ↓s_253_172p, ↓s_253_172l, ↓s_253_174, ↓s_253_177, ↓s_253_179, ↓s_253_180, ↓s_253_181n, ↓s_253_181i, ↓s_253_181p, ↓s_253_181l, ↓s_253_183, ↓s_253_186, ↓s_253_188, ↓s_253_189, ↓s_253_190, ↓s_253_193, ↓s_253_194, ↓s_253_197, ↓s_253_200, ↓s_253_202, ↓s_253_205, ↓s_253_206, ↓s_253_207, ↓s_253_210, ↓s_253_211, ↓s_253_212, ↓s_253_214, ↓s_253_215, ↓s_253_216n, ↓s_253_216i, ↓s_253_216p, ↓s_253_216l, ↓s_253_218, ↓s_253_221, ↓s_253_222, ↓s_253_223, ↓s_253_224, ↓s_253_227, ↓s_253_228, ↓s_253_229, ↓s_253_231, ↓s_253_232, ↓s_253_233n, ↓s_253_233i, ↓s_253_233p, ↓s_253_233l, ↓s_253_235, ↓s_253_238, ↓s_253_240, ↓s_253_241, ↓s_253_242, ↓s_253_245, ↓s_253_246, ↓s_253_249, ↓s_253_250, ↓s_253_253n, ↓s_253_253i, ↓s_253_253p, ↓s_253_253l, ↓s_253_255, ↓s_253_258, ↓s_253_260, ↓s_253_261, ↓s_253_262, ↓s_253_265, ↓s_253_266, ↓s_253_269, ↓s_253_270, ↓s_253_273n, ↓s_253_273i, ↓s_253_273p, ↓s_253_273l, ↓s_253_275, ↓s_253_278, ↓s_253_280, ↓s_253_281, ↓s_253_282, ↓s_253_285, ↓s_253_286, ↓s_253_289, ↓s_253_290, ↓s_253_293n, ↓s_253_293i, ↓s_253_293p, ↓s_253_293l, ↓s_253_295, ↓s_253_298, ↓s_253_300, ↓s_253_301, ↓s_253_302, ↓s_253_305, ↓s_253_306, ↓s_253_309, ↓s_253_310, ↓s_253_313n, ↓s_253_313i, ↓s_253_313p, ↓s_253_313l, ↓s_253_315, ↓s_253_318, ↓s_253_320, ↓s_253_321, ↓s_253_322, ↓s_253_325, ↓s_253_326, ↓s_253_329, ↓s_253_330, ↓s_253_333n, ↓s_253_333i, ↓s_253_333p, ↓s_253_333l, ↓s_253_335, ↓s_253_338, ↓s_253_340, ↓s_253_341, ↓s_253_342, ↓s_253_345, ↓s_253_346, ↓s_253_349, ↓s_253_350, ↓s_253_353n, ↓s_253_353i, ↓s_253_353p, ↓s_253_353l, ↓s_253_355, ↓s_253_358, ↓s_253_360, ↓s_253_361, ↓s_253_362, ↓s_253_365, ↓s_253_366, ↓s_253_367, ↓s_253_368, ↓s_253_371, ↓s_253_372, ↓s_253_375, ↓s_253_376, ↓s_253_379n, ↓s_253_379i, ↓s_253_379p, ↓s_253_379l, ↓s_253_381, ↓s_253_384, ↓s_253_386, ↓s_253_387, ↓s_253_388, ↓s_253_391, ↓s_253_392, ↓s_253_393, ↓s_253_394, ↓s_253_397, ↓s_253_398, ↓s_253_401, ↓s_253_402, ↓s_253_405n, ↓s_253_405i, ↓s_253_405p, ↓s_253_405l, ↓g_253_407, ↓k_253_407, ↓s_253_408, ↓s_253_411, ↓s_253_412, ↓s_253_415, ↓s_253_416, ↓s_253_417, ↓s_253_419, ↓s_253_420, ↓s_253_422, ↓s_253_425, ↓s_253_426, ↓s_253_429, ↓s_253_431, ↓s_253_434, ↓s_253_435, ↓s_253_438, ↓s_253_439, ↓s_253_442, ↓s_253_443, w32c_260, ↓s_181_0, ↓s_181_1, ↓s_181_4, ↓s_181_5, ↓s_181_8, ↓s_181_9, zar_131, zia_131, zln_131, zit_131, zio_95]
  refine ⟨⟨by omega, by omega⟩, fun hs => ?_, fun hs => ?_⟩
  · have h2 := h2 hs
    have e2 : w32 (mem 95 52 - 2) = w32 (mem 95 52) - 2 := by rw [w32_sb (by rw [w32c_2]; omega) (by rw [w32c_2]; omega), w32c_2]
    have hf : aFrm [(95, 53), (131, 0)] mem (yset mem 95 52 (mem 95 52 - 1)) := aFrm_set aFrm_rf rfl
    have hw : w32 (yset mem 95 52 (mem 95 52 - 1) 95 52) = w32 (mem 95 52) - 1 := by rw [yset_s]; exact e1
    have ret0 : Q (some (0, 0)) (yset mem 95 52 (mem 95 52 - 1)) := hQ 0 _ (Or.inl rfl) hf (by rw [if_neg hs]; exact hw)
    have fin : ∀ (v : Int) (r1 r2 r3 r4 r5 r7 : Option yV), zG E (d + 1) xm_253 407 [some (1, 95), r1, r2, r3, r4, r5, some (4, v), r7] [] (yset mem 95 52 (mem 95 52 - 1)) Q := fun v r1 r2 r3 r4 r5 r7 =>
      works_end hE (by rw [hw]; omega) (by rw [hw]; omega) (fun x mem' hx hf' => hQ x mem' hx (fun i j hij => by
        rw [hf' i j (by revert hij; simp only [amod]; intro hij; simp only [Bool.or_eq_false_iff] at hij ⊢; exact hij.2), hf i j hij]) (by
          rw [if_neg hs, hf' 95 52 rfl]
          exact hw))
    refine ⟨⟨by omega, by omega⟩, ?_⟩
    simp only [fin, ret0, implies_true, and_true, true_and]
    refine ⟨fun _ h => ?_, fun _ _ _ _ h => ?_⟩
    · have h0 : ¬ w64 (mem 131 (w32 (mem 95 52 - 2)).toNat) = 0 := ycmp_n h
      unfold zabl
      split
      · exact h0
      · exact w64_ng h0
    · exact ycmp_n h
  · have hs' : w32 s = 260 := by omega
    exact ⟨fun _ => ⟨⟨by omega, by omega⟩, hQ 1 _ (Or.inr rfl) (aFrm_set aFrm_rf rfl) (by rw [if_pos hs', yset_o (by decide)])⟩, fun _ => ⟨⟨by omega, by omega⟩, hQ 1 _ (Or.inr rfl) (aFrm_set aFrm_rf rfl) (by rw [if_pos hs', yset_o (by decide)])⟩⟩
end

theorem dM_L_law_1797 : decode cM_L_law 1797 = .ok (.aload_n 1, 1) := dz_o43 (lT_56 5)
theorem dM_L_law_1798 : decode cM_L_law 1798 = .ok (.aload_n 0, 1) := dz_o42 (lT_56 6)
theorem dM_L_law_1799 : decode cM_L_law 1799 = .ok (.iload 4, 2) := dz_o21 (lT_56 7) (lT_56 8) (by decide +kernel)
theorem dM_L_law_1801 : decode cM_L_law 1801 = .ok (.iconst 1, 1) := dz_o4 (lT_56 9)
theorem dM_L_law_1802 : decode cM_L_law 1802 = .ok (.iadd, 1) := dz_o96 (lT_56 10)
theorem dM_L_law_1803 : decode cM_L_law 1803 = .ok (.iaload, 1) := dz_o46 (lT_56 11)
theorem dM_L_law_1804 : decode cM_L_law 1804 = .ok (.aload_n 0, 1) := dz_o42 (lT_56 12)
theorem dM_L_law_1805 : decode cM_L_law 1805 = .ok (.iload 4, 2) := dz_o21 (lT_56 13) (lT_56 14) (by decide +kernel)
theorem dM_L_law_1807 : decode cM_L_law 1807 = .ok (.iconst 2, 1) := dz_o5 (lT_56 15)
theorem dM_L_law_1808 : decode cM_L_law 1808 = .ok (.iadd, 1) := dz_o96 (lT_56 16)
theorem dM_L_law_1809 : decode cM_L_law 1809 = .ok (.iaload, 1) := dz_o46 (lT_56 17)
theorem dM_L_law_1810 : decode cM_L_law 1810 = .ok (.aload_n 0, 1) := dz_o42 (lT_56 18)
theorem dM_L_law_1811 : decode cM_L_law 1811 = .ok (.iload 4, 2) := dz_o21 (lT_56 19) (lT_56 20) (by decide +kernel)
theorem dM_L_law_1813 : decode cM_L_law 1813 = .ok (.iconst 3, 1) := dz_o6 (lT_56 21)
theorem dM_L_law_1814 : decode cM_L_law 1814 = .ok (.iadd, 1) := dz_o96 (lT_56 22)
theorem dM_L_law_1815 : decode cM_L_law 1815 = .ok (.iaload, 1) := dz_o46 (lT_56 23)
theorem dM_L_law_1816 : decode cM_L_law 1816 = .ok (.aload_n 3, 1) := dz_o45 (lT_56 24)
theorem dM_L_law_1817 : decode cM_L_law 1817 = .ok (.invokestatic 239, 3) := dz_o184 (lT_56 25) (lT_56 26) (lT_56 27) (by decide +kernel)
theorem wd_1377 : (Jvm.Cond.codeWith ({ cls := "NoteDocumentLaw", name := "kind", desc := "(LNoteDocument;III[J)I" } : Jvm.MethodName) method_23_code (6 : Nat) (Option.some Jvm.ClassFile.FieldType.int) [((0 : Nat), (12 : Nat), (15 : Nat), (21 : Nat))]) ∈ BIG := big_t (List.mem_of_getElem? (i := 1377) (by decide +kernel)) (by decide +kernel)
theorem wd_1375 : (Jvm.Cond.methodLink "NoteDocumentLaw" (239 : Nat) ({ cls := "NoteDocumentLaw", name := "kind", desc := "(LNoteDocument;III[J)I" } : Jvm.MethodName)) ∈ BIG := big_t (List.mem_of_getElem? (i := 1375) (by decide +kernel)) (by decide +kernel)
theorem wd_1376 : (Jvm.Cond.static ({ cls := "NoteDocumentLaw", name := "kind", desc := "(LNoteDocument;III[J)I" } : Jvm.MethodName)) ∈ BIG := big_t (List.mem_of_getElem? (i := 1376) (by decide +kernel)) (by decide +kernel)
theorem dM_L_law_1820 : decode cM_L_law 1820 = .ok (.istore 5, 2) := dz_o54 (lT_56 28) (lT_56 29) (by decide +kernel)
theorem dM_L_law_1822 : decode cM_L_law 1822 = .ok (.aload_n 2, 1) := dz_o44 (lT_56 30)
theorem dM_L_law_1823 : decode cM_L_law 1823 = .ok (.aload_n 0, 1) := dz_o42 (lT_56 31)
theorem dM_L_law_1824 : decode cM_L_law 1824 = .ok (.iload 4, 2) := dz_o21 (lT_57 0) (lT_57 1) (by decide +kernel)
theorem dM_L_law_1826 : decode cM_L_law 1826 = .ok (.iconst 1, 1) := dz_o4 (lT_57 2)
theorem dM_L_law_1827 : decode cM_L_law 1827 = .ok (.iadd, 1) := dz_o96 (lT_57 3)
theorem dM_L_law_1828 : decode cM_L_law 1828 = .ok (.iaload, 1) := dz_o46 (lT_57 4)
theorem dM_L_law_1829 : decode cM_L_law 1829 = .ok (.aload_n 0, 1) := dz_o42 (lT_57 5)
theorem dM_L_law_1830 : decode cM_L_law 1830 = .ok (.iload 4, 2) := dz_o21 (lT_57 6) (lT_57 7) (by decide +kernel)
theorem dM_L_law_1832 : decode cM_L_law 1832 = .ok (.iconst 2, 1) := dz_o5 (lT_57 8)
theorem dM_L_law_1833 : decode cM_L_law 1833 = .ok (.iadd, 1) := dz_o96 (lT_57 9)
theorem dM_L_law_1834 : decode cM_L_law 1834 = .ok (.iaload, 1) := dz_o46 (lT_57 10)
theorem dM_L_law_1835 : decode cM_L_law 1835 = .ok (.aload_n 0, 1) := dz_o42 (lT_57 11)
theorem dM_L_law_1836 : decode cM_L_law 1836 = .ok (.iload 4, 2) := dz_o21 (lT_57 12) (lT_57 13) (by decide +kernel)
theorem dM_L_law_1838 : decode cM_L_law 1838 = .ok (.iconst 3, 1) := dz_o6 (lT_57 14)
theorem dM_L_law_1839 : decode cM_L_law 1839 = .ok (.iadd, 1) := dz_o96 (lT_57 15)
theorem dM_L_law_1840 : decode cM_L_law 1840 = .ok (.iaload, 1) := dz_o46 (lT_57 16)
theorem dM_L_law_1841 : decode cM_L_law 1841 = .ok (.invokevirtual 241, 3) := dz_o182 (lT_57 17) (lT_57 18) (lT_57 19) (by decide +kernel)
theorem wd_2690 : (Jvm.Cond.code ({ cls := "NoteDocumentModel", name := "kind", desc := "(III)I" } : Jvm.MethodName) prog_13_method_46_code (4 : Nat) (Option.some Jvm.ClassFile.FieldType.int)) ∈ BIG := big_t (List.mem_of_getElem? (i := 2690) (by decide +kernel)) (by decide +kernel)
theorem wd_2687 : (Jvm.Cond.methodLink "NoteDocumentLaw" (241 : Nat) ({ cls := "NoteDocumentModel", name := "kind", desc := "(III)I" } : Jvm.MethodName)) ∈ BIG := big_t (List.mem_of_getElem? (i := 2687) (by decide +kernel)) (by decide +kernel)
theorem wd_2688 : (Jvm.Cond.instanceMethod ({ cls := "NoteDocumentModel", name := "kind", desc := "(III)I" } : Jvm.MethodName)) ∈ BIG := big_t (List.mem_of_getElem? (i := 2688) (by decide +kernel)) (by decide +kernel)
theorem wd_2689 : (Jvm.Cond.selects "NoteDocumentModel" ({ cls := "NoteDocumentModel", name := "kind", desc := "(III)I" } : Jvm.MethodName) ({ cls := "NoteDocumentModel", name := "kind", desc := "(III)I" } : Jvm.MethodName)) ∈ BIG := big_t (List.mem_of_getElem? (i := 2689) (by decide +kernel)) (by decide +kernel)
theorem dM_L_law_1844 : decode cM_L_law 1844 = .ok (.istore 6, 2) := dz_o54 (lT_57 20) (lT_57 21) (by decide +kernel)
theorem dM_L_law_1846 : decode cM_L_law 1846 = .ok (.aload_n 2, 1) := dz_o44 (lT_57 22)
theorem dM_L_law_1847 : decode cM_L_law 1847 = .ok (.invokevirtual 158, 3) := dz_o182 (lT_57 23) (lT_57 24) (lT_57 25) (by decide +kernel)
theorem dM_L_law_1850 : decode cM_L_law 1850 = .ok (.iload 5, 2) := dz_o21 (lT_57 26) (lT_57 27) (by decide +kernel)
theorem dM_L_law_1852 : decode cM_L_law 1852 = .ok (.if_icmp .eq 5, 3) := dz_o159 (lT_57 28) (lT_57 29) (lT_57 30) (by decide +kernel)
theorem dM_L_law_1857 : decode cM_L_law 1857 = .ok (.iload 5, 2) := dz_o21 (lT_58 1) (lT_58 2) (by decide +kernel)
theorem dM_L_law_1859 : decode cM_L_law 1859 = .ok (.ifCond .ne 15, 3) := dz_o154 (lT_58 3) (lT_58 4) (lT_58 5) (by decide +kernel)
theorem dM_L_law_1874 : decode cM_L_law 1874 = .ok (.goto 1536, 3) := dz_o167 (lT_58 18) (lT_58 19) (lT_58 20) (by decide +kernel)
theorem dM_L_law_1877 : decode cM_L_law 1877 = .ok (.aload_n 1, 1) := dz_o43 (lT_58 21)
theorem dM_L_law_1878 : decode cM_L_law 1878 = .ok (.aload_n 0, 1) := dz_o42 (lT_58 22)
theorem dM_L_law_1879 : decode cM_L_law 1879 = .ok (.iload 4, 2) := dz_o21 (lT_58 23) (lT_58 24) (by decide +kernel)
theorem dM_L_law_1881 : decode cM_L_law 1881 = .ok (.iconst 1, 1) := dz_o4 (lT_58 25)
theorem dM_L_law_1882 : decode cM_L_law 1882 = .ok (.iadd, 1) := dz_o96 (lT_58 26)
theorem dM_L_law_1883 : decode cM_L_law 1883 = .ok (.iaload, 1) := dz_o46 (lT_58 27)
theorem dM_L_law_1884 : decode cM_L_law 1884 = .ok (.aload_n 0, 1) := dz_o42 (lT_58 28)
theorem dM_L_law_1885 : decode cM_L_law 1885 = .ok (.iload 4, 2) := dz_o21 (lT_58 29) (lT_58 30) (by decide +kernel)
theorem dM_L_law_1887 : decode cM_L_law 1887 = .ok (.iconst 2, 1) := dz_o5 (lT_58 31)
theorem dM_L_law_1888 : decode cM_L_law 1888 = .ok (.iadd, 1) := dz_o96 (lT_59 0)
theorem dM_L_law_1889 : decode cM_L_law 1889 = .ok (.iaload, 1) := dz_o46 (lT_59 1)
theorem dM_L_law_1890 : decode cM_L_law 1890 = .ok (.aload_n 0, 1) := dz_o42 (lT_59 2)
theorem dM_L_law_1891 : decode cM_L_law 1891 = .ok (.iload 4, 2) := dz_o21 (lT_59 3) (lT_59 4) (by decide +kernel)
theorem dM_L_law_1893 : decode cM_L_law 1893 = .ok (.iconst 3, 1) := dz_o6 (lT_59 5)
theorem dM_L_law_1894 : decode cM_L_law 1894 = .ok (.iadd, 1) := dz_o96 (lT_59 6)
theorem dM_L_law_1895 : decode cM_L_law 1895 = .ok (.iaload, 1) := dz_o46 (lT_59 7)
theorem dM_L_law_1896 : decode cM_L_law 1896 = .ok (.aload_n 3, 1) := dz_o45 (lT_59 8)
theorem dM_L_law_1897 : decode cM_L_law 1897 = .ok (.invokestatic 242, 3) := dz_o184 (lT_59 9) (lT_59 10) (lT_59 11) (by decide +kernel)
theorem wd_1410 : (Jvm.Cond.codeWith ({ cls := "NoteDocumentLaw", name := "value", desc := "(LNoteDocument;III[J)I" } : Jvm.MethodName) method_24_code (6 : Nat) (Option.some Jvm.ClassFile.FieldType.int) [((0 : Nat), (11 : Nat), (14 : Nat), (21 : Nat))]) ∈ BIG := big_t (List.mem_of_getElem? (i := 1410) (by decide +kernel)) (by decide +kernel)
theorem wd_1408 : (Jvm.Cond.methodLink "NoteDocumentLaw" (242 : Nat) ({ cls := "NoteDocumentLaw", name := "value", desc := "(LNoteDocument;III[J)I" } : Jvm.MethodName)) ∈ BIG := big_t (List.mem_of_getElem? (i := 1408) (by decide +kernel)) (by decide +kernel)
theorem wd_1409 : (Jvm.Cond.static ({ cls := "NoteDocumentLaw", name := "value", desc := "(LNoteDocument;III[J)I" } : Jvm.MethodName)) ∈ BIG := big_t (List.mem_of_getElem? (i := 1409) (by decide +kernel)) (by decide +kernel)
theorem dM_L_law_1900 : decode cM_L_law 1900 = .ok (.istore 5, 2) := dz_o54 (lT_59 12) (lT_59 13) (by decide +kernel)
theorem dM_L_law_1902 : decode cM_L_law 1902 = .ok (.aload_n 2, 1) := dz_o44 (lT_59 14)
theorem dM_L_law_1903 : decode cM_L_law 1903 = .ok (.aload_n 0, 1) := dz_o42 (lT_59 15)
theorem dM_L_law_1904 : decode cM_L_law 1904 = .ok (.iload 4, 2) := dz_o21 (lT_59 16) (lT_59 17) (by decide +kernel)
theorem dM_L_law_1906 : decode cM_L_law 1906 = .ok (.iconst 1, 1) := dz_o4 (lT_59 18)
theorem dM_L_law_1907 : decode cM_L_law 1907 = .ok (.iadd, 1) := dz_o96 (lT_59 19)
theorem dM_L_law_1908 : decode cM_L_law 1908 = .ok (.iaload, 1) := dz_o46 (lT_59 20)
theorem dM_L_law_1909 : decode cM_L_law 1909 = .ok (.aload_n 0, 1) := dz_o42 (lT_59 21)
theorem dM_L_law_1910 : decode cM_L_law 1910 = .ok (.iload 4, 2) := dz_o21 (lT_59 22) (lT_59 23) (by decide +kernel)
theorem dM_L_law_1912 : decode cM_L_law 1912 = .ok (.iconst 2, 1) := dz_o5 (lT_59 24)
theorem dM_L_law_1913 : decode cM_L_law 1913 = .ok (.iadd, 1) := dz_o96 (lT_59 25)
theorem dM_L_law_1914 : decode cM_L_law 1914 = .ok (.iaload, 1) := dz_o46 (lT_59 26)
theorem dM_L_law_1915 : decode cM_L_law 1915 = .ok (.aload_n 0, 1) := dz_o42 (lT_59 27)
theorem dM_L_law_1916 : decode cM_L_law 1916 = .ok (.iload 4, 2) := dz_o21 (lT_59 28) (lT_59 29) (by decide +kernel)
theorem dM_L_law_1918 : decode cM_L_law 1918 = .ok (.iconst 3, 1) := dz_o6 (lT_59 30)
theorem dM_L_law_1919 : decode cM_L_law 1919 = .ok (.iadd, 1) := dz_o96 (lT_59 31)
theorem dM_L_law_1920 : decode cM_L_law 1920 = .ok (.iaload, 1) := dz_o46 (lT_60 0)
theorem dM_L_law_1921 : decode cM_L_law 1921 = .ok (.invokevirtual 244, 3) := dz_o182 (lT_60 1) (lT_60 2) (lT_60 3) (by decide +kernel)
theorem wd_2712 : (Jvm.Cond.code ({ cls := "NoteDocumentModel", name := "value", desc := "(III)J" } : Jvm.MethodName) prog_13_method_47_code (4 : Nat) (Option.some Jvm.ClassFile.FieldType.long)) ∈ BIG := big_t (List.mem_of_getElem? (i := 2712) (by decide +kernel)) (by decide +kernel)
theorem wd_2709 : (Jvm.Cond.methodLink "NoteDocumentLaw" (244 : Nat) ({ cls := "NoteDocumentModel", name := "value", desc := "(III)J" } : Jvm.MethodName)) ∈ BIG := big_t (List.mem_of_getElem? (i := 2709) (by decide +kernel)) (by decide +kernel)
theorem wd_2710 : (Jvm.Cond.instanceMethod ({ cls := "NoteDocumentModel", name := "value", desc := "(III)J" } : Jvm.MethodName)) ∈ BIG := big_t (List.mem_of_getElem? (i := 2710) (by decide +kernel)) (by decide +kernel)
theorem wd_2711 : (Jvm.Cond.selects "NoteDocumentModel" ({ cls := "NoteDocumentModel", name := "value", desc := "(III)J" } : Jvm.MethodName) ({ cls := "NoteDocumentModel", name := "value", desc := "(III)J" } : Jvm.MethodName)) ∈ BIG := big_t (List.mem_of_getElem? (i := 2711) (by decide +kernel)) (by decide +kernel)
theorem dM_L_law_1924 : decode cM_L_law 1924 = .ok (.lstore 6, 2) := dz_o55 (lT_60 4) (lT_60 5) (by decide +kernel)
theorem dM_L_law_1926 : decode cM_L_law 1926 = .ok (.aload_n 2, 1) := dz_o44 (lT_60 6)
theorem dM_L_law_1927 : decode cM_L_law 1927 = .ok (.invokevirtual 158, 3) := dz_o182 (lT_60 7) (lT_60 8) (lT_60 9) (by decide +kernel)
theorem dM_L_law_1930 : decode cM_L_law 1930 = .ok (.iload 5, 2) := dz_o21 (lT_60 10) (lT_60 11) (by decide +kernel)
theorem dM_L_law_1932 : decode cM_L_law 1932 = .ok (.if_icmp .eq 5, 3) := dz_o159 (lT_60 12) (lT_60 13) (lT_60 14) (by decide +kernel)
theorem dM_L_law_1937 : decode cM_L_law 1937 = .ok (.iload 5, 2) := dz_o21 (lT_60 17) (lT_60 18) (by decide +kernel)
theorem dM_L_law_1939 : decode cM_L_law 1939 = .ok (.ifCond .ne 14, 3) := dz_o154 (lT_60 19) (lT_60 20) (lT_60 21) (by decide +kernel)
theorem dM_L_law_1953 : decode cM_L_law 1953 = .ok (.goto 1457, 3) := dz_o167 (lT_61 1) (lT_61 2) (lT_61 3) (by decide +kernel)
theorem dM_L_law_1956 : decode cM_L_law 1956 = .ok (.aload_n 1, 1) := dz_o43 (lT_61 4)
theorem dM_L_law_1957 : decode cM_L_law 1957 = .ok (.aload_n 0, 1) := dz_o42 (lT_61 5)
theorem dM_L_law_1958 : decode cM_L_law 1958 = .ok (.iload 4, 2) := dz_o21 (lT_61 6) (lT_61 7) (by decide +kernel)
theorem dM_L_law_1960 : decode cM_L_law 1960 = .ok (.iconst 1, 1) := dz_o4 (lT_61 8)
theorem dM_L_law_1961 : decode cM_L_law 1961 = .ok (.iadd, 1) := dz_o96 (lT_61 9)
theorem dM_L_law_1962 : decode cM_L_law 1962 = .ok (.iaload, 1) := dz_o46 (lT_61 10)
theorem dM_L_law_1963 : decode cM_L_law 1963 = .ok (.aload_n 0, 1) := dz_o42 (lT_61 11)
theorem dM_L_law_1964 : decode cM_L_law 1964 = .ok (.iload 4, 2) := dz_o21 (lT_61 12) (lT_61 13) (by decide +kernel)
theorem dM_L_law_1966 : decode cM_L_law 1966 = .ok (.iconst 2, 1) := dz_o5 (lT_61 14)
theorem dM_L_law_1967 : decode cM_L_law 1967 = .ok (.iadd, 1) := dz_o96 (lT_61 15)
theorem dM_L_law_1968 : decode cM_L_law 1968 = .ok (.iaload, 1) := dz_o46 (lT_61 16)
theorem dM_L_law_1969 : decode cM_L_law 1969 = .ok (.aload_n 0, 1) := dz_o42 (lT_61 17)
theorem dM_L_law_1970 : decode cM_L_law 1970 = .ok (.iload 4, 2) := dz_o21 (lT_61 18) (lT_61 19) (by decide +kernel)
theorem dM_L_law_1972 : decode cM_L_law 1972 = .ok (.iconst 3, 1) := dz_o6 (lT_61 20)
theorem dM_L_law_1973 : decode cM_L_law 1973 = .ok (.iadd, 1) := dz_o96 (lT_61 21)
theorem dM_L_law_1974 : decode cM_L_law 1974 = .ok (.iaload, 1) := dz_o46 (lT_61 22)
theorem dM_L_law_1975 : decode cM_L_law 1975 = .ok (.aload_n 3, 1) := dz_o45 (lT_61 23)
theorem dM_L_law_1976 : decode cM_L_law 1976 = .ok (.invokestatic 245, 3) := dz_o184 (lT_61 24) (lT_61 25) (lT_61 26) (by decide +kernel)
theorem wd_1421 : (Jvm.Cond.codeWith ({ cls := "NoteDocumentLaw", name := "spills", desc := "(LNoteDocument;III[J)I" } : Jvm.MethodName) method_25_code (6 : Nat) (Option.some Jvm.ClassFile.FieldType.int) [((0 : Nat), (12 : Nat), (15 : Nat), (21 : Nat))]) ∈ BIG := big_t (List.mem_of_getElem? (i := 1421) (by decide +kernel)) (by decide +kernel)
theorem wd_1419 : (Jvm.Cond.methodLink "NoteDocumentLaw" (245 : Nat) ({ cls := "NoteDocumentLaw", name := "spills", desc := "(LNoteDocument;III[J)I" } : Jvm.MethodName)) ∈ BIG := big_t (List.mem_of_getElem? (i := 1419) (by decide +kernel)) (by decide +kernel)
theorem wd_1420 : (Jvm.Cond.static ({ cls := "NoteDocumentLaw", name := "spills", desc := "(LNoteDocument;III[J)I" } : Jvm.MethodName)) ∈ BIG := big_t (List.mem_of_getElem? (i := 1420) (by decide +kernel)) (by decide +kernel)
theorem dM_L_law_1979 : decode cM_L_law 1979 = .ok (.istore 5, 2) := dz_o54 (lT_61 27) (lT_61 28) (by decide +kernel)
theorem dM_L_law_1981 : decode cM_L_law 1981 = .ok (.aload_n 2, 1) := dz_o44 (lT_61 29)
theorem dM_L_law_1982 : decode cM_L_law 1982 = .ok (.aload_n 0, 1) := dz_o42 (lT_61 30)
theorem dM_L_law_1983 : decode cM_L_law 1983 = .ok (.iload 4, 2) := dz_o21 (lT_61 31) (lT_62 0) (by decide +kernel)
theorem dM_L_law_1985 : decode cM_L_law 1985 = .ok (.iconst 1, 1) := dz_o4 (lT_62 1)
theorem dM_L_law_1986 : decode cM_L_law 1986 = .ok (.iadd, 1) := dz_o96 (lT_62 2)
theorem dM_L_law_1987 : decode cM_L_law 1987 = .ok (.iaload, 1) := dz_o46 (lT_62 3)
theorem dM_L_law_1988 : decode cM_L_law 1988 = .ok (.aload_n 0, 1) := dz_o42 (lT_62 4)
theorem dM_L_law_1989 : decode cM_L_law 1989 = .ok (.iload 4, 2) := dz_o21 (lT_62 5) (lT_62 6) (by decide +kernel)
theorem dM_L_law_1991 : decode cM_L_law 1991 = .ok (.iconst 2, 1) := dz_o5 (lT_62 7)
theorem dM_L_law_1992 : decode cM_L_law 1992 = .ok (.iadd, 1) := dz_o96 (lT_62 8)
theorem dM_L_law_1993 : decode cM_L_law 1993 = .ok (.iaload, 1) := dz_o46 (lT_62 9)
theorem dM_L_law_1994 : decode cM_L_law 1994 = .ok (.aload_n 0, 1) := dz_o42 (lT_62 10)
theorem dM_L_law_1995 : decode cM_L_law 1995 = .ok (.iload 4, 2) := dz_o21 (lT_62 11) (lT_62 12) (by decide +kernel)
theorem dM_L_law_1997 : decode cM_L_law 1997 = .ok (.iconst 3, 1) := dz_o6 (lT_62 13)
theorem dM_L_law_1998 : decode cM_L_law 1998 = .ok (.iadd, 1) := dz_o96 (lT_62 14)
theorem dM_L_law_1999 : decode cM_L_law 1999 = .ok (.iaload, 1) := dz_o46 (lT_62 15)
theorem dM_L_law_2000 : decode cM_L_law 2000 = .ok (.invokevirtual 247, 3) := dz_o182 (lT_62 16) (lT_62 17) (lT_62 18) (by decide +kernel)
theorem wd_2716 : (Jvm.Cond.code ({ cls := "NoteDocumentModel", name := "spills", desc := "(III)I" } : Jvm.MethodName) prog_13_method_48_code (5 : Nat) (Option.some Jvm.ClassFile.FieldType.int)) ∈ BIG := big_t (List.mem_of_getElem? (i := 2716) (by decide +kernel)) (by decide +kernel)
theorem wd_2713 : (Jvm.Cond.methodLink "NoteDocumentLaw" (247 : Nat) ({ cls := "NoteDocumentModel", name := "spills", desc := "(III)I" } : Jvm.MethodName)) ∈ BIG := big_t (List.mem_of_getElem? (i := 2713) (by decide +kernel)) (by decide +kernel)
theorem wd_2714 : (Jvm.Cond.instanceMethod ({ cls := "NoteDocumentModel", name := "spills", desc := "(III)I" } : Jvm.MethodName)) ∈ BIG := big_t (List.mem_of_getElem? (i := 2714) (by decide +kernel)) (by decide +kernel)
theorem wd_2715 : (Jvm.Cond.selects "NoteDocumentModel" ({ cls := "NoteDocumentModel", name := "spills", desc := "(III)I" } : Jvm.MethodName) ({ cls := "NoteDocumentModel", name := "spills", desc := "(III)I" } : Jvm.MethodName)) ∈ BIG := big_t (List.mem_of_getElem? (i := 2715) (by decide +kernel)) (by decide +kernel)
theorem dM_L_law_2003 : decode cM_L_law 2003 = .ok (.istore 6, 2) := dz_o54 (lT_62 19) (lT_62 20) (by decide +kernel)
theorem dM_L_law_2005 : decode cM_L_law 2005 = .ok (.aload_n 2, 1) := dz_o44 (lT_62 21)
theorem dM_L_law_2006 : decode cM_L_law 2006 = .ok (.invokevirtual 158, 3) := dz_o182 (lT_62 22) (lT_62 23) (lT_62 24) (by decide +kernel)
theorem dM_L_law_2009 : decode cM_L_law 2009 = .ok (.iload 5, 2) := dz_o21 (lT_62 25) (lT_62 26) (by decide +kernel)
theorem dM_L_law_2011 : decode cM_L_law 2011 = .ok (.if_icmp .eq 5, 3) := dz_o159 (lT_62 27) (lT_62 28) (lT_62 29) (by decide +kernel)
theorem dM_L_law_2016 : decode cM_L_law 2016 = .ok (.iload 5, 2) := dz_o21 (lT_63 0) (lT_63 1) (by decide +kernel)
theorem dM_L_law_2018 : decode cM_L_law 2018 = .ok (.ifCond .ne 15, 3) := dz_o154 (lT_63 2) (lT_63 3) (lT_63 4) (by decide +kernel)
theorem dM_L_law_2033 : decode cM_L_law 2033 = .ok (.goto 1377, 3) := dz_o167 (lT_63 17) (lT_63 18) (lT_63 19) (by decide +kernel)
theorem dM_L_law_2036 : decode cM_L_law 2036 = .ok (.aload_n 1, 1) := dz_o43 (lT_63 20)
theorem dM_L_law_2037 : decode cM_L_law 2037 = .ok (.aload_n 0, 1) := dz_o42 (lT_63 21)
theorem dM_L_law_2038 : decode cM_L_law 2038 = .ok (.iload 4, 2) := dz_o21 (lT_63 22) (lT_63 23) (by decide +kernel)
theorem dM_L_law_2040 : decode cM_L_law 2040 = .ok (.iconst 1, 1) := dz_o4 (lT_63 24)
theorem dM_L_law_2041 : decode cM_L_law 2041 = .ok (.iadd, 1) := dz_o96 (lT_63 25)
theorem dM_L_law_2042 : decode cM_L_law 2042 = .ok (.iaload, 1) := dz_o46 (lT_63 26)
theorem dM_L_law_2043 : decode cM_L_law 2043 = .ok (.aload_n 0, 1) := dz_o42 (lT_63 27)
theorem dM_L_law_2044 : decode cM_L_law 2044 = .ok (.iload 4, 2) := dz_o21 (lT_63 28) (lT_63 29) (by decide +kernel)
theorem dM_L_law_2046 : decode cM_L_law 2046 = .ok (.iconst 2, 1) := dz_o5 (lT_63 30)
theorem dM_L_law_2047 : decode cM_L_law 2047 = .ok (.iadd, 1) := dz_o96 (lT_63 31)
theorem dM_L_law_2048 : decode cM_L_law 2048 = .ok (.iaload, 1) := dz_o46 (lT_64 0)
theorem dM_L_law_2049 : decode cM_L_law 2049 = .ok (.aload_n 0, 1) := dz_o42 (lT_64 1)
theorem dM_L_law_2050 : decode cM_L_law 2050 = .ok (.iload 4, 2) := dz_o21 (lT_64 2) (lT_64 3) (by decide +kernel)
theorem dM_L_law_2052 : decode cM_L_law 2052 = .ok (.iconst 3, 1) := dz_o6 (lT_64 4)
theorem dM_L_law_2053 : decode cM_L_law 2053 = .ok (.iadd, 1) := dz_o96 (lT_64 5)
theorem dM_L_law_2054 : decode cM_L_law 2054 = .ok (.iaload, 1) := dz_o46 (lT_64 6)
theorem dM_L_law_2055 : decode cM_L_law 2055 = .ok (.aload_n 3, 1) := dz_o45 (lT_64 7)
theorem dM_L_law_2056 : decode cM_L_law 2056 = .ok (.invokestatic 248, 3) := dz_o184 (lT_64 8) (lT_64 9) (lT_64 10) (by decide +kernel)
theorem wd_1429 : (Jvm.Cond.codeWith ({ cls := "NoteDocumentLaw", name := "through", desc := "(LNoteDocument;III[J)I" } : Jvm.MethodName) method_26_code (6 : Nat) (Option.some Jvm.ClassFile.FieldType.int) [((0 : Nat), (12 : Nat), (15 : Nat), (21 : Nat))]) ∈ BIG := big_t (List.mem_of_getElem? (i := 1429) (by decide +kernel)) (by decide +kernel)
theorem wd_1427 : (Jvm.Cond.methodLink "NoteDocumentLaw" (248 : Nat) ({ cls := "NoteDocumentLaw", name := "through", desc := "(LNoteDocument;III[J)I" } : Jvm.MethodName)) ∈ BIG := big_t (List.mem_of_getElem? (i := 1427) (by decide +kernel)) (by decide +kernel)
theorem wd_1428 : (Jvm.Cond.static ({ cls := "NoteDocumentLaw", name := "through", desc := "(LNoteDocument;III[J)I" } : Jvm.MethodName)) ∈ BIG := big_t (List.mem_of_getElem? (i := 1428) (by decide +kernel)) (by decide +kernel)
theorem dM_L_law_2059 : decode cM_L_law 2059 = .ok (.istore 5, 2) := dz_o54 (lT_64 11) (lT_64 12) (by decide +kernel)
theorem dM_L_law_2061 : decode cM_L_law 2061 = .ok (.aload_n 2, 1) := dz_o44 (lT_64 13)
theorem dM_L_law_2062 : decode cM_L_law 2062 = .ok (.aload_n 0, 1) := dz_o42 (lT_64 14)
theorem dM_L_law_2063 : decode cM_L_law 2063 = .ok (.iload 4, 2) := dz_o21 (lT_64 15) (lT_64 16) (by decide +kernel)
theorem dM_L_law_2065 : decode cM_L_law 2065 = .ok (.iconst 1, 1) := dz_o4 (lT_64 17)
theorem dM_L_law_2066 : decode cM_L_law 2066 = .ok (.iadd, 1) := dz_o96 (lT_64 18)
theorem dM_L_law_2067 : decode cM_L_law 2067 = .ok (.iaload, 1) := dz_o46 (lT_64 19)
theorem dM_L_law_2068 : decode cM_L_law 2068 = .ok (.aload_n 0, 1) := dz_o42 (lT_64 20)
theorem dM_L_law_2069 : decode cM_L_law 2069 = .ok (.iload 4, 2) := dz_o21 (lT_64 21) (lT_64 22) (by decide +kernel)
theorem dM_L_law_2071 : decode cM_L_law 2071 = .ok (.iconst 2, 1) := dz_o5 (lT_64 23)
theorem dM_L_law_2072 : decode cM_L_law 2072 = .ok (.iadd, 1) := dz_o96 (lT_64 24)
theorem dM_L_law_2073 : decode cM_L_law 2073 = .ok (.iaload, 1) := dz_o46 (lT_64 25)
theorem dM_L_law_2074 : decode cM_L_law 2074 = .ok (.aload_n 0, 1) := dz_o42 (lT_64 26)
theorem dM_L_law_2075 : decode cM_L_law 2075 = .ok (.iload 4, 2) := dz_o21 (lT_64 27) (lT_64 28) (by decide +kernel)
theorem dM_L_law_2077 : decode cM_L_law 2077 = .ok (.iconst 3, 1) := dz_o6 (lT_64 29)
theorem dM_L_law_2078 : decode cM_L_law 2078 = .ok (.iadd, 1) := dz_o96 (lT_64 30)
theorem dM_L_law_2079 : decode cM_L_law 2079 = .ok (.iaload, 1) := dz_o46 (lT_64 31)
theorem dM_L_law_2080 : decode cM_L_law 2080 = .ok (.invokevirtual 250, 3) := dz_o182 (lT_65 0) (lT_65 1) (lT_65 2) (by decide +kernel)
theorem wd_2720 : (Jvm.Cond.code ({ cls := "NoteDocumentModel", name := "through", desc := "(III)I" } : Jvm.MethodName) prog_13_method_49_code (5 : Nat) (Option.some Jvm.ClassFile.FieldType.int)) ∈ BIG := big_t (List.mem_of_getElem? (i := 2720) (by decide +kernel)) (by decide +kernel)
theorem wd_2717 : (Jvm.Cond.methodLink "NoteDocumentLaw" (250 : Nat) ({ cls := "NoteDocumentModel", name := "through", desc := "(III)I" } : Jvm.MethodName)) ∈ BIG := big_t (List.mem_of_getElem? (i := 2717) (by decide +kernel)) (by decide +kernel)
theorem wd_2718 : (Jvm.Cond.instanceMethod ({ cls := "NoteDocumentModel", name := "through", desc := "(III)I" } : Jvm.MethodName)) ∈ BIG := big_t (List.mem_of_getElem? (i := 2718) (by decide +kernel)) (by decide +kernel)
theorem wd_2719 : (Jvm.Cond.selects "NoteDocumentModel" ({ cls := "NoteDocumentModel", name := "through", desc := "(III)I" } : Jvm.MethodName) ({ cls := "NoteDocumentModel", name := "through", desc := "(III)I" } : Jvm.MethodName)) ∈ BIG := big_t (List.mem_of_getElem? (i := 2719) (by decide +kernel)) (by decide +kernel)
theorem dM_L_law_2083 : decode cM_L_law 2083 = .ok (.istore 6, 2) := dz_o54 (lT_65 3) (lT_65 4) (by decide +kernel)
theorem dM_L_law_2085 : decode cM_L_law 2085 = .ok (.aload_n 2, 1) := dz_o44 (lT_65 5)
theorem dM_L_law_2086 : decode cM_L_law 2086 = .ok (.invokevirtual 158, 3) := dz_o182 (lT_65 6) (lT_65 7) (lT_65 8) (by decide +kernel)
theorem dM_L_law_2089 : decode cM_L_law 2089 = .ok (.iload 5, 2) := dz_o21 (lT_65 9) (lT_65 10) (by decide +kernel)
theorem dM_L_law_2091 : decode cM_L_law 2091 = .ok (.if_icmp .eq 5, 3) := dz_o159 (lT_65 11) (lT_65 12) (lT_65 13) (by decide +kernel)
theorem dM_L_law_2096 : decode cM_L_law 2096 = .ok (.iload 5, 2) := dz_o21 (lT_65 16) (lT_65 17) (by decide +kernel)
theorem dM_L_law_2098 : decode cM_L_law 2098 = .ok (.ifCond .ne 15, 3) := dz_o154 (lT_65 18) (lT_65 19) (lT_65 20) (by decide +kernel)
theorem dM_L_law_2113 : decode cM_L_law 2113 = .ok (.goto 1297, 3) := dz_o167 (lT_66 1) (lT_66 2) (lT_66 3) (by decide +kernel)
theorem dM_L_law_2116 : decode cM_L_law 2116 = .ok (.aload_n 1, 1) := dz_o43 (lT_66 4)
theorem dM_L_law_2117 : decode cM_L_law 2117 = .ok (.aload_n 0, 1) := dz_o42 (lT_66 5)
theorem dM_L_law_2118 : decode cM_L_law 2118 = .ok (.iload 4, 2) := dz_o21 (lT_66 6) (lT_66 7) (by decide +kernel)
theorem dM_L_law_2120 : decode cM_L_law 2120 = .ok (.iconst 1, 1) := dz_o4 (lT_66 8)
theorem dM_L_law_2121 : decode cM_L_law 2121 = .ok (.iadd, 1) := dz_o96 (lT_66 9)
theorem dM_L_law_2122 : decode cM_L_law 2122 = .ok (.iaload, 1) := dz_o46 (lT_66 10)
theorem dM_L_law_2123 : decode cM_L_law 2123 = .ok (.aload_n 0, 1) := dz_o42 (lT_66 11)
theorem dM_L_law_2124 : decode cM_L_law 2124 = .ok (.iload 4, 2) := dz_o21 (lT_66 12) (lT_66 13) (by decide +kernel)
theorem dM_L_law_2126 : decode cM_L_law 2126 = .ok (.iconst 2, 1) := dz_o5 (lT_66 14)
theorem dM_L_law_2127 : decode cM_L_law 2127 = .ok (.iadd, 1) := dz_o96 (lT_66 15)
theorem dM_L_law_2128 : decode cM_L_law 2128 = .ok (.iaload, 1) := dz_o46 (lT_66 16)
theorem dM_L_law_2129 : decode cM_L_law 2129 = .ok (.aload_n 0, 1) := dz_o42 (lT_66 17)
theorem dM_L_law_2130 : decode cM_L_law 2130 = .ok (.iload 4, 2) := dz_o21 (lT_66 18) (lT_66 19) (by decide +kernel)
theorem dM_L_law_2132 : decode cM_L_law 2132 = .ok (.iconst 3, 1) := dz_o6 (lT_66 20)
theorem dM_L_law_2133 : decode cM_L_law 2133 = .ok (.iadd, 1) := dz_o96 (lT_66 21)
theorem dM_L_law_2134 : decode cM_L_law 2134 = .ok (.iaload, 1) := dz_o46 (lT_66 22)
theorem dM_L_law_2135 : decode cM_L_law 2135 = .ok (.aload_n 3, 1) := dz_o45 (lT_66 23)
theorem dM_L_law_2136 : decode cM_L_law 2136 = .ok (.invokestatic 251, 3) := dz_o184 (lT_66 24) (lT_66 25) (lT_66 26) (by decide +kernel)
theorem wd_1441 : (Jvm.Cond.codeWith ({ cls := "NoteDocumentLaw", name := "cause", desc := "(LNoteDocument;III[J)I" } : Jvm.MethodName) method_27_code (6 : Nat) (Option.some Jvm.ClassFile.FieldType.int) [((0 : Nat), (12 : Nat), (15 : Nat), (21 : Nat))]) ∈ BIG := big_t (List.mem_of_getElem? (i := 1441) (by decide +kernel)) (by decide +kernel)
theorem wd_1439 : (Jvm.Cond.methodLink "NoteDocumentLaw" (251 : Nat) ({ cls := "NoteDocumentLaw", name := "cause", desc := "(LNoteDocument;III[J)I" } : Jvm.MethodName)) ∈ BIG := big_t (List.mem_of_getElem? (i := 1439) (by decide +kernel)) (by decide +kernel)
theorem wd_1440 : (Jvm.Cond.static ({ cls := "NoteDocumentLaw", name := "cause", desc := "(LNoteDocument;III[J)I" } : Jvm.MethodName)) ∈ BIG := big_t (List.mem_of_getElem? (i := 1440) (by decide +kernel)) (by decide +kernel)
theorem dM_L_law_2139 : decode cM_L_law 2139 = .ok (.istore 5, 2) := dz_o54 (lT_66 27) (lT_66 28) (by decide +kernel)
theorem dM_L_law_2141 : decode cM_L_law 2141 = .ok (.aload_n 2, 1) := dz_o44 (lT_66 29)
theorem dM_L_law_2142 : decode cM_L_law 2142 = .ok (.aload_n 0, 1) := dz_o42 (lT_66 30)
theorem dM_L_law_2143 : decode cM_L_law 2143 = .ok (.iload 4, 2) := dz_o21 (lT_66 31) (lT_67 0) (by decide +kernel)
theorem dM_L_law_2145 : decode cM_L_law 2145 = .ok (.iconst 1, 1) := dz_o4 (lT_67 1)
theorem dM_L_law_2146 : decode cM_L_law 2146 = .ok (.iadd, 1) := dz_o96 (lT_67 2)
theorem dM_L_law_2147 : decode cM_L_law 2147 = .ok (.iaload, 1) := dz_o46 (lT_67 3)
theorem dM_L_law_2148 : decode cM_L_law 2148 = .ok (.aload_n 0, 1) := dz_o42 (lT_67 4)
theorem dM_L_law_2149 : decode cM_L_law 2149 = .ok (.iload 4, 2) := dz_o21 (lT_67 5) (lT_67 6) (by decide +kernel)
theorem dM_L_law_2151 : decode cM_L_law 2151 = .ok (.iconst 2, 1) := dz_o5 (lT_67 7)
theorem dM_L_law_2152 : decode cM_L_law 2152 = .ok (.iadd, 1) := dz_o96 (lT_67 8)
theorem dM_L_law_2153 : decode cM_L_law 2153 = .ok (.iaload, 1) := dz_o46 (lT_67 9)
theorem dM_L_law_2154 : decode cM_L_law 2154 = .ok (.aload_n 0, 1) := dz_o42 (lT_67 10)
theorem dM_L_law_2155 : decode cM_L_law 2155 = .ok (.iload 4, 2) := dz_o21 (lT_67 11) (lT_67 12) (by decide +kernel)
theorem dM_L_law_2157 : decode cM_L_law 2157 = .ok (.iconst 3, 1) := dz_o6 (lT_67 13)
theorem dM_L_law_2158 : decode cM_L_law 2158 = .ok (.iadd, 1) := dz_o96 (lT_67 14)
theorem dM_L_law_2159 : decode cM_L_law 2159 = .ok (.iaload, 1) := dz_o46 (lT_67 15)
theorem dM_L_law_2160 : decode cM_L_law 2160 = .ok (.invokevirtual 253, 3) := dz_o182 (lT_67 16) (lT_67 17) (lT_67 18) (by decide +kernel)
theorem wd_2724 : (Jvm.Cond.code ({ cls := "NoteDocumentModel", name := "cause", desc := "(III)I" } : Jvm.MethodName) prog_13_method_50_code (6 : Nat) (Option.some Jvm.ClassFile.FieldType.int)) ∈ BIG := big_t (List.mem_of_getElem? (i := 2724) (by decide +kernel)) (by decide +kernel)
theorem wd_2721 : (Jvm.Cond.methodLink "NoteDocumentLaw" (253 : Nat) ({ cls := "NoteDocumentModel", name := "cause", desc := "(III)I" } : Jvm.MethodName)) ∈ BIG := big_t (List.mem_of_getElem? (i := 2721) (by decide +kernel)) (by decide +kernel)
theorem wd_2722 : (Jvm.Cond.instanceMethod ({ cls := "NoteDocumentModel", name := "cause", desc := "(III)I" } : Jvm.MethodName)) ∈ BIG := big_t (List.mem_of_getElem? (i := 2722) (by decide +kernel)) (by decide +kernel)
theorem wd_2723 : (Jvm.Cond.selects "NoteDocumentModel" ({ cls := "NoteDocumentModel", name := "cause", desc := "(III)I" } : Jvm.MethodName) ({ cls := "NoteDocumentModel", name := "cause", desc := "(III)I" } : Jvm.MethodName)) ∈ BIG := big_t (List.mem_of_getElem? (i := 2723) (by decide +kernel)) (by decide +kernel)
theorem dM_L_law_2163 : decode cM_L_law 2163 = .ok (.istore 6, 2) := dz_o54 (lT_67 19) (lT_67 20) (by decide +kernel)
theorem dM_L_law_2165 : decode cM_L_law 2165 = .ok (.aload_n 2, 1) := dz_o44 (lT_67 21)
theorem dM_L_law_2166 : decode cM_L_law 2166 = .ok (.invokevirtual 158, 3) := dz_o182 (lT_67 22) (lT_67 23) (lT_67 24) (by decide +kernel)
theorem dM_L_law_2169 : decode cM_L_law 2169 = .ok (.iload 5, 2) := dz_o21 (lT_67 25) (lT_67 26) (by decide +kernel)
theorem dM_L_law_2171 : decode cM_L_law 2171 = .ok (.if_icmp .eq 5, 3) := dz_o159 (lT_67 27) (lT_67 28) (lT_67 29) (by decide +kernel)
theorem dM_L_law_2176 : decode cM_L_law 2176 = .ok (.iload 5, 2) := dz_o21 (lT_68 0) (lT_68 1) (by decide +kernel)
theorem dM_L_law_2178 : decode cM_L_law 2178 = .ok (.ifCond .ne 15, 3) := dz_o154 (lT_68 2) (lT_68 3) (lT_68 4) (by decide +kernel)
theorem dM_L_law_2193 : decode cM_L_law 2193 = .ok (.goto 1217, 3) := dz_o167 (lT_68 17) (lT_68 18) (lT_68 19) (by decide +kernel)
theorem dM_L_law_2196 : decode cM_L_law 2196 = .ok (.aload_n 1, 1) := dz_o43 (lT_68 20)
theorem dM_L_law_2197 : decode cM_L_law 2197 = .ok (.aload_n 0, 1) := dz_o42 (lT_68 21)
theorem dM_L_law_2198 : decode cM_L_law 2198 = .ok (.iload 4, 2) := dz_o21 (lT_68 22) (lT_68 23) (by decide +kernel)
theorem dM_L_law_2200 : decode cM_L_law 2200 = .ok (.iconst 1, 1) := dz_o4 (lT_68 24)
theorem dM_L_law_2201 : decode cM_L_law 2201 = .ok (.iadd, 1) := dz_o96 (lT_68 25)
theorem dM_L_law_2202 : decode cM_L_law 2202 = .ok (.iaload, 1) := dz_o46 (lT_68 26)
theorem dM_L_law_2203 : decode cM_L_law 2203 = .ok (.aload_n 0, 1) := dz_o42 (lT_68 27)
theorem dM_L_law_2204 : decode cM_L_law 2204 = .ok (.iload 4, 2) := dz_o21 (lT_68 28) (lT_68 29) (by decide +kernel)
theorem dM_L_law_2206 : decode cM_L_law 2206 = .ok (.iconst 2, 1) := dz_o5 (lT_68 30)
theorem dM_L_law_2207 : decode cM_L_law 2207 = .ok (.iadd, 1) := dz_o96 (lT_68 31)
theorem dM_L_law_2208 : decode cM_L_law 2208 = .ok (.iaload, 1) := dz_o46 (lT_69 0)
theorem dM_L_law_2209 : decode cM_L_law 2209 = .ok (.aload_n 0, 1) := dz_o42 (lT_69 1)
theorem dM_L_law_2210 : decode cM_L_law 2210 = .ok (.iload 4, 2) := dz_o21 (lT_69 2) (lT_69 3) (by decide +kernel)
theorem dM_L_law_2212 : decode cM_L_law 2212 = .ok (.iconst 3, 1) := dz_o6 (lT_69 4)
theorem dM_L_law_2213 : decode cM_L_law 2213 = .ok (.iadd, 1) := dz_o96 (lT_69 5)
theorem dM_L_law_2214 : decode cM_L_law 2214 = .ok (.iaload, 1) := dz_o46 (lT_69 6)
theorem dM_L_law_2215 : decode cM_L_law 2215 = .ok (.aload_n 3, 1) := dz_o45 (lT_69 7)
theorem dM_L_law_2216 : decode cM_L_law 2216 = .ok (.invokestatic 254, 3) := dz_o184 (lT_69 8) (lT_69 9) (lT_69 10) (by decide +kernel)
theorem wd_1456 : (Jvm.Cond.codeWith ({ cls := "NoteDocumentLaw", name := "kindFromNothing", desc := "(LNoteDocument;III[J)I" } : Jvm.MethodName) method_28_code (6 : Nat) (Option.some Jvm.ClassFile.FieldType.int) [((0 : Nat), (12 : Nat), (15 : Nat), (21 : Nat))]) ∈ BIG := big_t (List.mem_of_getElem? (i := 1456) (by decide +kernel)) (by decide +kernel)
theorem wd_1454 : (Jvm.Cond.methodLink "NoteDocumentLaw" (254 : Nat) ({ cls := "NoteDocumentLaw", name := "kindFromNothing", desc := "(LNoteDocument;III[J)I" } : Jvm.MethodName)) ∈ BIG := big_t (List.mem_of_getElem? (i := 1454) (by decide +kernel)) (by decide +kernel)
theorem wd_1455 : (Jvm.Cond.static ({ cls := "NoteDocumentLaw", name := "kindFromNothing", desc := "(LNoteDocument;III[J)I" } : Jvm.MethodName)) ∈ BIG := big_t (List.mem_of_getElem? (i := 1455) (by decide +kernel)) (by decide +kernel)
theorem dM_L_law_2219 : decode cM_L_law 2219 = .ok (.istore 5, 2) := dz_o54 (lT_69 11) (lT_69 12) (by decide +kernel)
theorem dM_L_law_2221 : decode cM_L_law 2221 = .ok (.aload_n 2, 1) := dz_o44 (lT_69 13)
theorem dM_L_law_2222 : decode cM_L_law 2222 = .ok (.aload_n 0, 1) := dz_o42 (lT_69 14)
theorem dM_L_law_2223 : decode cM_L_law 2223 = .ok (.iload 4, 2) := dz_o21 (lT_69 15) (lT_69 16) (by decide +kernel)
theorem dM_L_law_2225 : decode cM_L_law 2225 = .ok (.iconst 1, 1) := dz_o4 (lT_69 17)
theorem dM_L_law_2226 : decode cM_L_law 2226 = .ok (.iadd, 1) := dz_o96 (lT_69 18)
theorem dM_L_law_2227 : decode cM_L_law 2227 = .ok (.iaload, 1) := dz_o46 (lT_69 19)
theorem dM_L_law_2228 : decode cM_L_law 2228 = .ok (.aload_n 0, 1) := dz_o42 (lT_69 20)
theorem dM_L_law_2229 : decode cM_L_law 2229 = .ok (.iload 4, 2) := dz_o21 (lT_69 21) (lT_69 22) (by decide +kernel)
theorem dM_L_law_2231 : decode cM_L_law 2231 = .ok (.iconst 2, 1) := dz_o5 (lT_69 23)
theorem dM_L_law_2232 : decode cM_L_law 2232 = .ok (.iadd, 1) := dz_o96 (lT_69 24)
theorem dM_L_law_2233 : decode cM_L_law 2233 = .ok (.iaload, 1) := dz_o46 (lT_69 25)
theorem dM_L_law_2234 : decode cM_L_law 2234 = .ok (.aload_n 0, 1) := dz_o42 (lT_69 26)
theorem dM_L_law_2235 : decode cM_L_law 2235 = .ok (.iload 4, 2) := dz_o21 (lT_69 27) (lT_69 28) (by decide +kernel)
theorem dM_L_law_2237 : decode cM_L_law 2237 = .ok (.iconst 3, 1) := dz_o6 (lT_69 29)
theorem dM_L_law_2238 : decode cM_L_law 2238 = .ok (.iadd, 1) := dz_o96 (lT_69 30)
theorem dM_L_law_2239 : decode cM_L_law 2239 = .ok (.iaload, 1) := dz_o46 (lT_69 31)
theorem dM_L_law_2240 : decode cM_L_law 2240 = .ok (.invokevirtual 256, 3) := dz_o182 (lT_70 0) (lT_70 1) (lT_70 2) (by decide +kernel)
theorem wd_2728 : (Jvm.Cond.code ({ cls := "NoteDocumentModel", name := "kindFromNothing", desc := "(III)I" } : Jvm.MethodName) prog_13_method_52_code (4 : Nat) (Option.some Jvm.ClassFile.FieldType.int)) ∈ BIG := big_t (List.mem_of_getElem? (i := 2728) (by decide +kernel)) (by decide +kernel)
theorem wd_2725 : (Jvm.Cond.methodLink "NoteDocumentLaw" (256 : Nat) ({ cls := "NoteDocumentModel", name := "kindFromNothing", desc := "(III)I" } : Jvm.MethodName)) ∈ BIG := big_t (List.mem_of_getElem? (i := 2725) (by decide +kernel)) (by decide +kernel)
theorem wd_2726 : (Jvm.Cond.instanceMethod ({ cls := "NoteDocumentModel", name := "kindFromNothing", desc := "(III)I" } : Jvm.MethodName)) ∈ BIG := big_t (List.mem_of_getElem? (i := 2726) (by decide +kernel)) (by decide +kernel)
theorem wd_2727 : (Jvm.Cond.selects "NoteDocumentModel" ({ cls := "NoteDocumentModel", name := "kindFromNothing", desc := "(III)I" } : Jvm.MethodName) ({ cls := "NoteDocumentModel", name := "kindFromNothing", desc := "(III)I" } : Jvm.MethodName)) ∈ BIG := big_t (List.mem_of_getElem? (i := 2727) (by decide +kernel)) (by decide +kernel)
theorem dM_L_law_2243 : decode cM_L_law 2243 = .ok (.istore 6, 2) := dz_o54 (lT_70 3) (lT_70 4) (by decide +kernel)
theorem dM_L_law_2245 : decode cM_L_law 2245 = .ok (.aload_n 2, 1) := dz_o44 (lT_70 5)
theorem dM_L_law_2246 : decode cM_L_law 2246 = .ok (.invokevirtual 158, 3) := dz_o182 (lT_70 6) (lT_70 7) (lT_70 8) (by decide +kernel)
theorem dM_L_law_2249 : decode cM_L_law 2249 = .ok (.iload 5, 2) := dz_o21 (lT_70 9) (lT_70 10) (by decide +kernel)
theorem dM_L_law_2251 : decode cM_L_law 2251 = .ok (.if_icmp .eq 5, 3) := dz_o159 (lT_70 11) (lT_70 12) (lT_70 13) (by decide +kernel)
theorem dM_L_law_2256 : decode cM_L_law 2256 = .ok (.iload 5, 2) := dz_o21 (lT_70 16) (lT_70 17) (by decide +kernel)
theorem dM_L_law_2258 : decode cM_L_law 2258 = .ok (.ifCond .ne 15, 3) := dz_o154 (lT_70 18) (lT_70 19) (lT_70 20) (by decide +kernel)
theorem dM_L_law_2273 : decode cM_L_law 2273 = .ok (.goto 1137, 3) := dz_o167 (lT_71 1) (lT_71 2) (lT_71 3) (by decide +kernel)
theorem dM_L_law_2276 : decode cM_L_law 2276 = .ok (.aload_n 1, 1) := dz_o43 (lT_71 4)
theorem dM_L_law_2277 : decode cM_L_law 2277 = .ok (.aload_n 0, 1) := dz_o42 (lT_71 5)
theorem dM_L_law_2278 : decode cM_L_law 2278 = .ok (.iload 4, 2) := dz_o21 (lT_71 6) (lT_71 7) (by decide +kernel)
theorem dM_L_law_2280 : decode cM_L_law 2280 = .ok (.iconst 1, 1) := dz_o4 (lT_71 8)
theorem dM_L_law_2281 : decode cM_L_law 2281 = .ok (.iadd, 1) := dz_o96 (lT_71 9)
theorem dM_L_law_2282 : decode cM_L_law 2282 = .ok (.iaload, 1) := dz_o46 (lT_71 10)
theorem dM_L_law_2283 : decode cM_L_law 2283 = .ok (.aload_n 0, 1) := dz_o42 (lT_71 11)
theorem dM_L_law_2284 : decode cM_L_law 2284 = .ok (.iload 4, 2) := dz_o21 (lT_71 12) (lT_71 13) (by decide +kernel)
theorem dM_L_law_2286 : decode cM_L_law 2286 = .ok (.iconst 2, 1) := dz_o5 (lT_71 14)
theorem dM_L_law_2287 : decode cM_L_law 2287 = .ok (.iadd, 1) := dz_o96 (lT_71 15)
theorem dM_L_law_2288 : decode cM_L_law 2288 = .ok (.iaload, 1) := dz_o46 (lT_71 16)
theorem dM_L_law_2289 : decode cM_L_law 2289 = .ok (.aload_n 0, 1) := dz_o42 (lT_71 17)
theorem dM_L_law_2290 : decode cM_L_law 2290 = .ok (.iload 4, 2) := dz_o21 (lT_71 18) (lT_71 19) (by decide +kernel)
theorem dM_L_law_2292 : decode cM_L_law 2292 = .ok (.iconst 3, 1) := dz_o6 (lT_71 20)
theorem dM_L_law_2293 : decode cM_L_law 2293 = .ok (.iadd, 1) := dz_o96 (lT_71 21)
theorem dM_L_law_2294 : decode cM_L_law 2294 = .ok (.iaload, 1) := dz_o46 (lT_71 22)
theorem dM_L_law_2295 : decode cM_L_law 2295 = .ok (.aload_n 3, 1) := dz_o45 (lT_71 23)
theorem dM_L_law_2296 : decode cM_L_law 2296 = .ok (.invokestatic 257, 3) := dz_o184 (lT_71 24) (lT_71 25) (lT_71 26) (by decide +kernel)
theorem wd_1463 : (Jvm.Cond.codeWith ({ cls := "NoteDocumentLaw", name := "valueFromNothing", desc := "(LNoteDocument;III[J)I" } : Jvm.MethodName) method_29_code (6 : Nat) (Option.some Jvm.ClassFile.FieldType.int) [((0 : Nat), (11 : Nat), (14 : Nat), (21 : Nat))]) ∈ BIG := big_t (List.mem_of_getElem? (i := 1463) (by decide +kernel)) (by decide +kernel)
theorem wd_1461 : (Jvm.Cond.methodLink "NoteDocumentLaw" (257 : Nat) ({ cls := "NoteDocumentLaw", name := "valueFromNothing", desc := "(LNoteDocument;III[J)I" } : Jvm.MethodName)) ∈ BIG := big_t (List.mem_of_getElem? (i := 1461) (by decide +kernel)) (by decide +kernel)
theorem wd_1462 : (Jvm.Cond.static ({ cls := "NoteDocumentLaw", name := "valueFromNothing", desc := "(LNoteDocument;III[J)I" } : Jvm.MethodName)) ∈ BIG := big_t (List.mem_of_getElem? (i := 1462) (by decide +kernel)) (by decide +kernel)
theorem dM_L_law_2299 : decode cM_L_law 2299 = .ok (.istore 5, 2) := dz_o54 (lT_71 27) (lT_71 28) (by decide +kernel)
theorem dM_L_law_2301 : decode cM_L_law 2301 = .ok (.aload_n 2, 1) := dz_o44 (lT_71 29)
theorem dM_L_law_2302 : decode cM_L_law 2302 = .ok (.aload_n 0, 1) := dz_o42 (lT_71 30)
theorem dM_L_law_2303 : decode cM_L_law 2303 = .ok (.iload 4, 2) := dz_o21 (lT_71 31) (lT_72 0) (by decide +kernel)
theorem dM_L_law_2305 : decode cM_L_law 2305 = .ok (.iconst 1, 1) := dz_o4 (lT_72 1)
theorem dM_L_law_2306 : decode cM_L_law 2306 = .ok (.iadd, 1) := dz_o96 (lT_72 2)
theorem dM_L_law_2307 : decode cM_L_law 2307 = .ok (.iaload, 1) := dz_o46 (lT_72 3)
theorem dM_L_law_2308 : decode cM_L_law 2308 = .ok (.aload_n 0, 1) := dz_o42 (lT_72 4)
theorem dM_L_law_2309 : decode cM_L_law 2309 = .ok (.iload 4, 2) := dz_o21 (lT_72 5) (lT_72 6) (by decide +kernel)
theorem dM_L_law_2311 : decode cM_L_law 2311 = .ok (.iconst 2, 1) := dz_o5 (lT_72 7)
theorem dM_L_law_2312 : decode cM_L_law 2312 = .ok (.iadd, 1) := dz_o96 (lT_72 8)
theorem dM_L_law_2313 : decode cM_L_law 2313 = .ok (.iaload, 1) := dz_o46 (lT_72 9)
theorem dM_L_law_2314 : decode cM_L_law 2314 = .ok (.aload_n 0, 1) := dz_o42 (lT_72 10)
theorem dM_L_law_2315 : decode cM_L_law 2315 = .ok (.iload 4, 2) := dz_o21 (lT_72 11) (lT_72 12) (by decide +kernel)
theorem dM_L_law_2317 : decode cM_L_law 2317 = .ok (.iconst 3, 1) := dz_o6 (lT_72 13)
theorem dM_L_law_2318 : decode cM_L_law 2318 = .ok (.iadd, 1) := dz_o96 (lT_72 14)
theorem dM_L_law_2319 : decode cM_L_law 2319 = .ok (.iaload, 1) := dz_o46 (lT_72 15)
theorem dM_L_law_2320 : decode cM_L_law 2320 = .ok (.invokevirtual 259, 3) := dz_o182 (lT_72 16) (lT_72 17) (lT_72 18) (by decide +kernel)
theorem wd_2741 : (Jvm.Cond.code ({ cls := "NoteDocumentModel", name := "valueFromNothing", desc := "(III)J" } : Jvm.MethodName) prog_13_method_53_code (4 : Nat) (Option.some Jvm.ClassFile.FieldType.long)) ∈ BIG := big_t (List.mem_of_getElem? (i := 2741) (by decide +kernel)) (by decide +kernel)
theorem wd_2738 : (Jvm.Cond.methodLink "NoteDocumentLaw" (259 : Nat) ({ cls := "NoteDocumentModel", name := "valueFromNothing", desc := "(III)J" } : Jvm.MethodName)) ∈ BIG := big_t (List.mem_of_getElem? (i := 2738) (by decide +kernel)) (by decide +kernel)
theorem wd_2739 : (Jvm.Cond.instanceMethod ({ cls := "NoteDocumentModel", name := "valueFromNothing", desc := "(III)J" } : Jvm.MethodName)) ∈ BIG := big_t (List.mem_of_getElem? (i := 2739) (by decide +kernel)) (by decide +kernel)
theorem wd_2740 : (Jvm.Cond.selects "NoteDocumentModel" ({ cls := "NoteDocumentModel", name := "valueFromNothing", desc := "(III)J" } : Jvm.MethodName) ({ cls := "NoteDocumentModel", name := "valueFromNothing", desc := "(III)J" } : Jvm.MethodName)) ∈ BIG := big_t (List.mem_of_getElem? (i := 2740) (by decide +kernel)) (by decide +kernel)
theorem dM_L_law_2323 : decode cM_L_law 2323 = .ok (.lstore 6, 2) := dz_o55 (lT_72 19) (lT_72 20) (by decide +kernel)
theorem dM_L_law_2325 : decode cM_L_law 2325 = .ok (.aload_n 2, 1) := dz_o44 (lT_72 21)
theorem dM_L_law_2326 : decode cM_L_law 2326 = .ok (.invokevirtual 158, 3) := dz_o182 (lT_72 22) (lT_72 23) (lT_72 24) (by decide +kernel)
theorem dM_L_law_2329 : decode cM_L_law 2329 = .ok (.iload 5, 2) := dz_o21 (lT_72 25) (lT_72 26) (by decide +kernel)
theorem dM_L_law_2331 : decode cM_L_law 2331 = .ok (.if_icmp .eq 5, 3) := dz_o159 (lT_72 27) (lT_72 28) (lT_72 29) (by decide +kernel)
theorem dM_L_law_2336 : decode cM_L_law 2336 = .ok (.iload 5, 2) := dz_o21 (lT_73 0) (lT_73 1) (by decide +kernel)
theorem dM_L_law_2338 : decode cM_L_law 2338 = .ok (.ifCond .ne 14, 3) := dz_o154 (lT_73 2) (lT_73 3) (lT_73 4) (by decide +kernel)
theorem dM_L_law_2352 : decode cM_L_law 2352 = .ok (.goto 1058, 3) := dz_o167 (lT_73 16) (lT_73 17) (lT_73 18) (by decide +kernel)
theorem dM_L_law_2355 : decode cM_L_law 2355 = .ok (.aload_n 1, 1) := dz_o43 (lT_73 19)
theorem dM_L_law_2356 : decode cM_L_law 2356 = .ok (.aload_n 0, 1) := dz_o42 (lT_73 20)
theorem dM_L_law_2357 : decode cM_L_law 2357 = .ok (.iload 4, 2) := dz_o21 (lT_73 21) (lT_73 22) (by decide +kernel)
theorem dM_L_law_2359 : decode cM_L_law 2359 = .ok (.iconst 1, 1) := dz_o4 (lT_73 23)
theorem dM_L_law_2360 : decode cM_L_law 2360 = .ok (.iadd, 1) := dz_o96 (lT_73 24)
theorem dM_L_law_2361 : decode cM_L_law 2361 = .ok (.iaload, 1) := dz_o46 (lT_73 25)
theorem dM_L_law_2362 : decode cM_L_law 2362 = .ok (.aload_n 3, 1) := dz_o45 (lT_73 26)
theorem dM_L_law_2363 : decode cM_L_law 2363 = .ok (.invokestatic 260, 3) := dz_o184 (lT_73 27) (lT_73 28) (lT_73 29) (by decide +kernel)
theorem wd_1470 : (Jvm.Cond.codeWith ({ cls := "NoteDocumentLaw", name := "length", desc := "(LNoteDocument;I[J)I" } : Jvm.MethodName) method_30_code (4 : Nat) (Option.some Jvm.ClassFile.FieldType.int) [((0 : Nat), (9 : Nat), (12 : Nat), (21 : Nat))]) ∈ BIG := big_t (List.mem_of_getElem? (i := 1470) (by decide +kernel)) (by decide +kernel)
theorem wd_1468 : (Jvm.Cond.methodLink "NoteDocumentLaw" (260 : Nat) ({ cls := "NoteDocumentLaw", name := "length", desc := "(LNoteDocument;I[J)I" } : Jvm.MethodName)) ∈ BIG := big_t (List.mem_of_getElem? (i := 1468) (by decide +kernel)) (by decide +kernel)
theorem wd_1469 : (Jvm.Cond.static ({ cls := "NoteDocumentLaw", name := "length", desc := "(LNoteDocument;I[J)I" } : Jvm.MethodName)) ∈ BIG := big_t (List.mem_of_getElem? (i := 1469) (by decide +kernel)) (by decide +kernel)
theorem dM_L_law_2366 : decode cM_L_law 2366 = .ok (.istore 5, 2) := dz_o54 (lT_73 30) (lT_73 31) (by decide +kernel)
theorem dM_L_law_2368 : decode cM_L_law 2368 = .ok (.aload_n 2, 1) := dz_o44 (lT_74 0)
theorem dM_L_law_2369 : decode cM_L_law 2369 = .ok (.aload_n 0, 1) := dz_o42 (lT_74 1)
theorem dM_L_law_2370 : decode cM_L_law 2370 = .ok (.iload 4, 2) := dz_o21 (lT_74 2) (lT_74 3) (by decide +kernel)
theorem dM_L_law_2372 : decode cM_L_law 2372 = .ok (.iconst 1, 1) := dz_o4 (lT_74 4)
theorem dM_L_law_2373 : decode cM_L_law 2373 = .ok (.iadd, 1) := dz_o96 (lT_74 5)
theorem dM_L_law_2374 : decode cM_L_law 2374 = .ok (.iaload, 1) := dz_o46 (lT_74 6)
theorem dM_L_law_2375 : decode cM_L_law 2375 = .ok (.invokevirtual 262, 3) := dz_o182 (lT_74 7) (lT_74 8) (lT_74 9) (by decide +kernel)
theorem wd_2745 : (Jvm.Cond.code ({ cls := "NoteDocumentModel", name := "length", desc := "(I)I" } : Jvm.MethodName) prog_13_method_55_code (2 : Nat) (Option.some Jvm.ClassFile.FieldType.int)) ∈ BIG := big_t (List.mem_of_getElem? (i := 2745) (by decide +kernel)) (by decide +kernel)
theorem wd_2742 : (Jvm.Cond.methodLink "NoteDocumentLaw" (262 : Nat) ({ cls := "NoteDocumentModel", name := "length", desc := "(I)I" } : Jvm.MethodName)) ∈ BIG := big_t (List.mem_of_getElem? (i := 2742) (by decide +kernel)) (by decide +kernel)
theorem wd_2743 : (Jvm.Cond.instanceMethod ({ cls := "NoteDocumentModel", name := "length", desc := "(I)I" } : Jvm.MethodName)) ∈ BIG := big_t (List.mem_of_getElem? (i := 2743) (by decide +kernel)) (by decide +kernel)
theorem wd_2744 : (Jvm.Cond.selects "NoteDocumentModel" ({ cls := "NoteDocumentModel", name := "length", desc := "(I)I" } : Jvm.MethodName) ({ cls := "NoteDocumentModel", name := "length", desc := "(I)I" } : Jvm.MethodName)) ∈ BIG := big_t (List.mem_of_getElem? (i := 2744) (by decide +kernel)) (by decide +kernel)
theorem dM_L_law_2378 : decode cM_L_law 2378 = .ok (.istore 6, 2) := dz_o54 (lT_74 10) (lT_74 11) (by decide +kernel)
theorem dM_L_law_2380 : decode cM_L_law 2380 = .ok (.aload_n 2, 1) := dz_o44 (lT_74 12)
theorem dM_L_law_2381 : decode cM_L_law 2381 = .ok (.invokevirtual 158, 3) := dz_o182 (lT_74 13) (lT_74 14) (lT_74 15) (by decide +kernel)
theorem dM_L_law_2384 : decode cM_L_law 2384 = .ok (.iload 5, 2) := dz_o21 (lT_74 16) (lT_74 17) (by decide +kernel)
theorem dM_L_law_2386 : decode cM_L_law 2386 = .ok (.if_icmp .eq 5, 3) := dz_o159 (lT_74 18) (lT_74 19) (lT_74 20) (by decide +kernel)
theorem dM_L_law_2391 : decode cM_L_law 2391 = .ok (.iload 5, 2) := dz_o21 (lT_74 23) (lT_74 24) (by decide +kernel)
theorem dM_L_law_2393 : decode cM_L_law 2393 = .ok (.ifCond .ne 15, 3) := dz_o154 (lT_74 25) (lT_74 26) (lT_74 27) (by decide +kernel)
theorem dM_L_law_2408 : decode cM_L_law 2408 = .ok (.goto 1002, 3) := dz_o167 (lT_75 8) (lT_75 9) (lT_75 10) (by decide +kernel)
theorem dM_L_law_2411 : decode cM_L_law 2411 = .ok (.aload_n 1, 1) := dz_o43 (lT_75 11)
theorem dM_L_law_2412 : decode cM_L_law 2412 = .ok (.aload_n 0, 1) := dz_o42 (lT_75 12)
theorem dM_L_law_2413 : decode cM_L_law 2413 = .ok (.iload 4, 2) := dz_o21 (lT_75 13) (lT_75 14) (by decide +kernel)
theorem dM_L_law_2415 : decode cM_L_law 2415 = .ok (.iconst 1, 1) := dz_o4 (lT_75 15)
theorem dM_L_law_2416 : decode cM_L_law 2416 = .ok (.iadd, 1) := dz_o96 (lT_75 16)
theorem dM_L_law_2417 : decode cM_L_law 2417 = .ok (.iaload, 1) := dz_o46 (lT_75 17)
theorem dM_L_law_2418 : decode cM_L_law 2418 = .ok (.aload_n 0, 1) := dz_o42 (lT_75 18)
theorem dM_L_law_2419 : decode cM_L_law 2419 = .ok (.iload 4, 2) := dz_o21 (lT_75 19) (lT_75 20) (by decide +kernel)
theorem dM_L_law_2421 : decode cM_L_law 2421 = .ok (.iconst 2, 1) := dz_o5 (lT_75 21)
theorem dM_L_law_2422 : decode cM_L_law 2422 = .ok (.iadd, 1) := dz_o96 (lT_75 22)
theorem dM_L_law_2423 : decode cM_L_law 2423 = .ok (.iaload, 1) := dz_o46 (lT_75 23)
theorem dM_L_law_2424 : decode cM_L_law 2424 = .ok (.aload_n 3, 1) := dz_o45 (lT_75 24)
theorem dM_L_law_2425 : decode cM_L_law 2425 = .ok (.invokestatic 263, 3) := dz_o184 (lT_75 25) (lT_75 26) (lT_75 27) (by decide +kernel)
theorem wd_1482 : (Jvm.Cond.codeWith ({ cls := "NoteDocumentLaw", name := "lette\x72", desc := "(LNoteDocument;II[J)I" } : Jvm.MethodName) method_31_code (5 : Nat) (Option.some Jvm.ClassFile.FieldType.int) [((0 : Nat), (10 : Nat), (13 : Nat), (21 : Nat))]) ∈ BIG := big_t (List.mem_of_getElem? (i := 1482) (by decide +kernel)) (by decide +kernel)
theorem wd_1480 : (Jvm.Cond.methodLink "NoteDocumentLaw" (263 : Nat) ({ cls := "NoteDocumentLaw", name := "lette\x72", desc := "(LNoteDocument;II[J)I" } : Jvm.MethodName)) ∈ BIG := big_t (List.mem_of_getElem? (i := 1480) (by decide +kernel)) (by decide +kernel)
theorem wd_1481 : (Jvm.Cond.static ({ cls := "NoteDocumentLaw", name := "lette\x72", desc := "(LNoteDocument;II[J)I" } : Jvm.MethodName)) ∈ BIG := big_t (List.mem_of_getElem? (i := 1481) (by decide +kernel)) (by decide +kernel)
theorem dM_L_law_2428 : decode cM_L_law 2428 = .ok (.istore 5, 2) := dz_o54 (lT_75 28) (lT_75 29) (by decide +kernel)
theorem dM_L_law_2430 : decode cM_L_law 2430 = .ok (.aload_n 2, 1) := dz_o44 (lT_75 30)
theorem dM_L_law_2431 : decode cM_L_law 2431 = .ok (.aload_n 0, 1) := dz_o42 (lT_75 31)
theorem dM_L_law_2432 : decode cM_L_law 2432 = .ok (.iload 4, 2) := dz_o21 (lT_76 0) (lT_76 1) (by decide +kernel)
theorem dM_L_law_2434 : decode cM_L_law 2434 = .ok (.iconst 1, 1) := dz_o4 (lT_76 2)
theorem dM_L_law_2435 : decode cM_L_law 2435 = .ok (.iadd, 1) := dz_o96 (lT_76 3)
theorem dM_L_law_2436 : decode cM_L_law 2436 = .ok (.iaload, 1) := dz_o46 (lT_76 4)
theorem dM_L_law_2437 : decode cM_L_law 2437 = .ok (.aload_n 0, 1) := dz_o42 (lT_76 5)
theorem dM_L_law_2438 : decode cM_L_law 2438 = .ok (.iload 4, 2) := dz_o21 (lT_76 6) (lT_76 7) (by decide +kernel)
theorem dM_L_law_2440 : decode cM_L_law 2440 = .ok (.iconst 2, 1) := dz_o5 (lT_76 8)
theorem dM_L_law_2441 : decode cM_L_law 2441 = .ok (.iadd, 1) := dz_o96 (lT_76 9)
theorem dM_L_law_2442 : decode cM_L_law 2442 = .ok (.iaload, 1) := dz_o46 (lT_76 10)
theorem dM_L_law_2443 : decode cM_L_law 2443 = .ok (.invokevirtual 265, 3) := dz_o182 (lT_76 11) (lT_76 12) (lT_76 13) (by decide +kernel)
theorem wd_2753 : (Jvm.Cond.code ({ cls := "NoteDocumentModel", name := "lette\x72", desc := "(II)I" } : Jvm.MethodName) prog_13_method_56_code (5 : Nat) (Option.some Jvm.ClassFile.FieldType.int)) ∈ BIG := big_t (List.mem_of_getElem? (i := 2753) (by decide +kernel)) (by decide +kernel)
theorem wd_2750 : (Jvm.Cond.methodLink "NoteDocumentLaw" (265 : Nat) ({ cls := "NoteDocumentModel", name := "lette\x72", desc := "(II)I" } : Jvm.MethodName)) ∈ BIG := big_t (List.mem_of_getElem? (i := 2750) (by decide +kernel)) (by decide +kernel)
theorem wd_2751 : (Jvm.Cond.instanceMethod ({ cls := "NoteDocumentModel", name := "lette\x72", desc := "(II)I" } : Jvm.MethodName)) ∈ BIG := big_t (List.mem_of_getElem? (i := 2751) (by decide +kernel)) (by decide +kernel)
theorem wd_2752 : (Jvm.Cond.selects "NoteDocumentModel" ({ cls := "NoteDocumentModel", name := "lette\x72", desc := "(II)I" } : Jvm.MethodName) ({ cls := "NoteDocumentModel", name := "lette\x72", desc := "(II)I" } : Jvm.MethodName)) ∈ BIG := big_t (List.mem_of_getElem? (i := 2752) (by decide +kernel)) (by decide +kernel)
theorem dM_L_law_2446 : decode cM_L_law 2446 = .ok (.istore 6, 2) := dz_o54 (lT_76 14) (lT_76 15) (by decide +kernel)
theorem dM_L_law_2448 : decode cM_L_law 2448 = .ok (.aload_n 2, 1) := dz_o44 (lT_76 16)
theorem dM_L_law_2449 : decode cM_L_law 2449 = .ok (.invokevirtual 158, 3) := dz_o182 (lT_76 17) (lT_76 18) (lT_76 19) (by decide +kernel)
theorem dM_L_law_2452 : decode cM_L_law 2452 = .ok (.iload 5, 2) := dz_o21 (lT_76 20) (lT_76 21) (by decide +kernel)
theorem dM_L_law_2454 : decode cM_L_law 2454 = .ok (.if_icmp .eq 5, 3) := dz_o159 (lT_76 22) (lT_76 23) (lT_76 24) (by decide +kernel)
theorem dM_L_law_2459 : decode cM_L_law 2459 = .ok (.iload 5, 2) := dz_o21 (lT_76 27) (lT_76 28) (by decide +kernel)
theorem dM_L_law_2461 : decode cM_L_law 2461 = .ok (.ifCond .ne 15, 3) := dz_o154 (lT_76 29) (lT_76 30) (lT_76 31) (by decide +kernel)
theorem dM_L_law_2476 : decode cM_L_law 2476 = .ok (.goto 934, 3) := dz_o167 (lT_77 12) (lT_77 13) (lT_77 14) (by decide +kernel)
theorem dM_L_law_2479 : decode cM_L_law 2479 = .ok (.aload_n 1, 1) := dz_o43 (lT_77 15)
theorem dM_L_law_2480 : decode cM_L_law 2480 = .ok (.invokevirtual 266, 3) := dz_o182 (lT_77 16) (lT_77 17) (lT_77 18) (by decide +kernel)
theorem wd_1015 : (Jvm.Cond.code ({ cls := "NoteDocument", name := "runs", desc := "()I" } : Jvm.MethodName) prog_1_method_33_code (1 : Nat) (Option.some Jvm.ClassFile.FieldType.int)) ∈ BIG := big_t (List.mem_of_getElem? (i := 1015) (by decide +kernel)) (by decide +kernel)
theorem wd_1012 : (Jvm.Cond.methodLink "NoteDocumentLaw" (266 : Nat) ({ cls := "NoteDocument", name := "runs", desc := "()I" } : Jvm.MethodName)) ∈ BIG := big_t (List.mem_of_getElem? (i := 1012) (by decide +kernel)) (by decide +kernel)
theorem wd_1013 : (Jvm.Cond.instanceMethod ({ cls := "NoteDocument", name := "runs", desc := "()I" } : Jvm.MethodName)) ∈ BIG := big_t (List.mem_of_getElem? (i := 1013) (by decide +kernel)) (by decide +kernel)
theorem wd_1014 : (Jvm.Cond.selects "NoteDocument" ({ cls := "NoteDocument", name := "runs", desc := "()I" } : Jvm.MethodName) ({ cls := "NoteDocument", name := "runs", desc := "()I" } : Jvm.MethodName)) ∈ BIG := big_t (List.mem_of_getElem? (i := 1014) (by decide +kernel)) (by decide +kernel)
theorem dM_L_law_2483 : decode cM_L_law 2483 = .ok (.aload_n 2, 1) := dz_o44 (lT_77 19)
theorem dM_L_law_2484 : decode cM_L_law 2484 = .ok (.invokevirtual 269, 3) := dz_o182 (lT_77 20) (lT_77 21) (lT_77 22) (by decide +kernel)
theorem wd_2758 : (Jvm.Cond.code ({ cls := "NoteDocumentModel", name := "runs", desc := "()I" } : Jvm.MethodName) prog_13_method_57_code (1 : Nat) (Option.some Jvm.ClassFile.FieldType.int)) ∈ BIG := big_t (List.mem_of_getElem? (i := 2758) (by decide +kernel)) (by decide +kernel)
theorem wd_2755 : (Jvm.Cond.methodLink "NoteDocumentLaw" (269 : Nat) ({ cls := "NoteDocumentModel", name := "runs", desc := "()I" } : Jvm.MethodName)) ∈ BIG := big_t (List.mem_of_getElem? (i := 2755) (by decide +kernel)) (by decide +kernel)
theorem wd_2756 : (Jvm.Cond.instanceMethod ({ cls := "NoteDocumentModel", name := "runs", desc := "()I" } : Jvm.MethodName)) ∈ BIG := big_t (List.mem_of_getElem? (i := 2756) (by decide +kernel)) (by decide +kernel)
theorem wd_2757 : (Jvm.Cond.selects "NoteDocumentModel" ({ cls := "NoteDocumentModel", name := "runs", desc := "()I" } : Jvm.MethodName) ({ cls := "NoteDocumentModel", name := "runs", desc := "()I" } : Jvm.MethodName)) ∈ BIG := big_t (List.mem_of_getElem? (i := 2757) (by decide +kernel)) (by decide +kernel)
theorem dM_L_law_2487 : decode cM_L_law 2487 = .ok (.if_icmp .eq 923, 3) := dz_o159 (lT_77 23) (lT_77 24) (lT_77 25) (by decide +kernel)
theorem dM_L_law_2492 : decode cM_L_law 2492 = .ok (.aload_n 1, 1) := dz_o43 (lT_77 28)
theorem dM_L_law_2493 : decode cM_L_law 2493 = .ok (.invokevirtual 270, 3) := dz_o182 (lT_77 29) (lT_77 30) (lT_77 31) (by decide +kernel)
theorem wd_1019 : (Jvm.Cond.code ({ cls := "NoteDocument", name := "calls", desc := "()I" } : Jvm.MethodName) prog_1_method_34_code (1 : Nat) (Option.some Jvm.ClassFile.FieldType.int)) ∈ BIG := big_t (List.mem_of_getElem? (i := 1019) (by decide +kernel)) (by decide +kernel)
theorem wd_1016 : (Jvm.Cond.methodLink "NoteDocumentLaw" (270 : Nat) ({ cls := "NoteDocument", name := "calls", desc := "()I" } : Jvm.MethodName)) ∈ BIG := big_t (List.mem_of_getElem? (i := 1016) (by decide +kernel)) (by decide +kernel)
theorem wd_1017 : (Jvm.Cond.instanceMethod ({ cls := "NoteDocument", name := "calls", desc := "()I" } : Jvm.MethodName)) ∈ BIG := big_t (List.mem_of_getElem? (i := 1017) (by decide +kernel)) (by decide +kernel)
theorem wd_1018 : (Jvm.Cond.selects "NoteDocument" ({ cls := "NoteDocument", name := "calls", desc := "()I" } : Jvm.MethodName) ({ cls := "NoteDocument", name := "calls", desc := "()I" } : Jvm.MethodName)) ∈ BIG := big_t (List.mem_of_getElem? (i := 1018) (by decide +kernel)) (by decide +kernel)
theorem dM_L_law_2496 : decode cM_L_law 2496 = .ok (.aload_n 2, 1) := dz_o44 (lT_78 0)
theorem dM_L_law_2497 : decode cM_L_law 2497 = .ok (.invokevirtual 273, 3) := dz_o182 (lT_78 1) (lT_78 2) (lT_78 3) (by decide +kernel)
theorem wd_2762 : (Jvm.Cond.code ({ cls := "NoteDocumentModel", name := "calls", desc := "()I" } : Jvm.MethodName) prog_13_method_58_code (1 : Nat) (Option.some Jvm.ClassFile.FieldType.int)) ∈ BIG := big_t (List.mem_of_getElem? (i := 2762) (by decide +kernel)) (by decide +kernel)
theorem wd_2759 : (Jvm.Cond.methodLink "NoteDocumentLaw" (273 : Nat) ({ cls := "NoteDocumentModel", name := "calls", desc := "()I" } : Jvm.MethodName)) ∈ BIG := big_t (List.mem_of_getElem? (i := 2759) (by decide +kernel)) (by decide +kernel)
theorem wd_2760 : (Jvm.Cond.instanceMethod ({ cls := "NoteDocumentModel", name := "calls", desc := "()I" } : Jvm.MethodName)) ∈ BIG := big_t (List.mem_of_getElem? (i := 2760) (by decide +kernel)) (by decide +kernel)
theorem wd_2761 : (Jvm.Cond.selects "NoteDocumentModel" ({ cls := "NoteDocumentModel", name := "calls", desc := "()I" } : Jvm.MethodName) ({ cls := "NoteDocumentModel", name := "calls", desc := "()I" } : Jvm.MethodName)) ∈ BIG := big_t (List.mem_of_getElem? (i := 2761) (by decide +kernel)) (by decide +kernel)
theorem dM_L_law_2500 : decode cM_L_law 2500 = .ok (.if_icmp .eq 910, 3) := dz_o159 (lT_78 4) (lT_78 5) (lT_78 6) (by decide +kernel)
theorem dM_L_law_2505 : decode cM_L_law 2505 = .ok (.aload_n 1, 1) := dz_o43 (lT_78 9)
theorem dM_L_law_2506 : decode cM_L_law 2506 = .ok (.aload_n 0, 1) := dz_o42 (lT_78 10)
theorem dM_L_law_2507 : decode cM_L_law 2507 = .ok (.iload 4, 2) := dz_o21 (lT_78 11) (lT_78 12) (by decide +kernel)
theorem dM_L_law_2509 : decode cM_L_law 2509 = .ok (.iconst 1, 1) := dz_o4 (lT_78 13)
theorem dM_L_law_2510 : decode cM_L_law 2510 = .ok (.iadd, 1) := dz_o96 (lT_78 14)
theorem dM_L_law_2511 : decode cM_L_law 2511 = .ok (.iaload, 1) := dz_o46 (lT_78 15)
theorem dM_L_law_2512 : decode cM_L_law 2512 = .ok (.aload_n 0, 1) := dz_o42 (lT_78 16)
theorem dM_L_law_2513 : decode cM_L_law 2513 = .ok (.iload 4, 2) := dz_o21 (lT_78 17) (lT_78 18) (by decide +kernel)
theorem dM_L_law_2515 : decode cM_L_law 2515 = .ok (.iconst 2, 1) := dz_o5 (lT_78 19)
theorem dM_L_law_2516 : decode cM_L_law 2516 = .ok (.iadd, 1) := dz_o96 (lT_78 20)
theorem dM_L_law_2517 : decode cM_L_law 2517 = .ok (.iaload, 1) := dz_o46 (lT_78 21)
theorem dM_L_law_2518 : decode cM_L_law 2518 = .ok (.aload_n 3, 1) := dz_o45 (lT_78 22)
theorem dM_L_law_2519 : decode cM_L_law 2519 = .ok (.invokestatic 274, 3) := dz_o184 (lT_78 23) (lT_78 24) (lT_78 25) (by decide +kernel)
theorem wd_1506 : (Jvm.Cond.codeWith ({ cls := "NoteDocumentLaw", name := "insert", desc := "(LNoteDocument;II[J)I" } : Jvm.MethodName) method_32_code (5 : Nat) (Option.some Jvm.ClassFile.FieldType.int) [((0 : Nat), (10 : Nat), (13 : Nat), (21 : Nat)), ((0 : Nat), (10 : Nat), (17 : Nat), (15 : Nat))]) ∈ BIG := big_t (List.mem_of_getElem? (i := 1506) (by decide +kernel)) (by decide +kernel)
theorem wd_1504 : (Jvm.Cond.methodLink "NoteDocumentLaw" (274 : Nat) ({ cls := "NoteDocumentLaw", name := "insert", desc := "(LNoteDocument;II[J)I" } : Jvm.MethodName)) ∈ BIG := big_t (List.mem_of_getElem? (i := 1504) (by decide +kernel)) (by decide +kernel)
theorem wd_1505 : (Jvm.Cond.static ({ cls := "NoteDocumentLaw", name := "insert", desc := "(LNoteDocument;II[J)I" } : Jvm.MethodName)) ∈ BIG := big_t (List.mem_of_getElem? (i := 1505) (by decide +kernel)) (by decide +kernel)
theorem dM_L_law_2522 : decode cM_L_law 2522 = .ok (.istore 5, 2) := dz_o54 (lT_78 26) (lT_78 27) (by decide +kernel)
theorem dM_L_law_2524 : decode cM_L_law 2524 = .ok (.aload_n 2, 1) := dz_o44 (lT_78 28)
theorem dM_L_law_2525 : decode cM_L_law 2525 = .ok (.aload_n 0, 1) := dz_o42 (lT_78 29)
theorem dM_L_law_2526 : decode cM_L_law 2526 = .ok (.iload 4, 2) := dz_o21 (lT_78 30) (lT_78 31) (by decide +kernel)
theorem dM_L_law_2528 : decode cM_L_law 2528 = .ok (.iconst 1, 1) := dz_o4 (lT_79 0)
theorem dM_L_law_2529 : decode cM_L_law 2529 = .ok (.iadd, 1) := dz_o96 (lT_79 1)
theorem dM_L_law_2530 : decode cM_L_law 2530 = .ok (.iaload, 1) := dz_o46 (lT_79 2)
theorem dM_L_law_2531 : decode cM_L_law 2531 = .ok (.aload_n 0, 1) := dz_o42 (lT_79 3)
theorem dM_L_law_2532 : decode cM_L_law 2532 = .ok (.iload 4, 2) := dz_o21 (lT_79 4) (lT_79 5) (by decide +kernel)
theorem dM_L_law_2534 : decode cM_L_law 2534 = .ok (.iconst 2, 1) := dz_o5 (lT_79 6)
theorem dM_L_law_2535 : decode cM_L_law 2535 = .ok (.iadd, 1) := dz_o96 (lT_79 7)
theorem dM_L_law_2536 : decode cM_L_law 2536 = .ok (.iaload, 1) := dz_o46 (lT_79 8)
theorem dM_L_law_2537 : decode cM_L_law 2537 = .ok (.invokevirtual 276, 3) := dz_o182 (lT_79 9) (lT_79 10) (lT_79 11) (by decide +kernel)
theorem wd_2766 : (Jvm.Cond.code ({ cls := "NoteDocumentModel", name := "insert", desc := "(II)I" } : Jvm.MethodName) prog_13_method_67_code (7 : Nat) (Option.some Jvm.ClassFile.FieldType.int)) ∈ BIG := big_t (List.mem_of_getElem? (i := 2766) (by decide +kernel)) (by decide +kernel)
theorem wd_2763 : (Jvm.Cond.methodLink "NoteDocumentLaw" (276 : Nat) ({ cls := "NoteDocumentModel", name := "insert", desc := "(II)I" } : Jvm.MethodName)) ∈ BIG := big_t (List.mem_of_getElem? (i := 2763) (by decide +kernel)) (by decide +kernel)
theorem wd_2764 : (Jvm.Cond.instanceMethod ({ cls := "NoteDocumentModel", name := "insert", desc := "(II)I" } : Jvm.MethodName)) ∈ BIG := big_t (List.mem_of_getElem? (i := 2764) (by decide +kernel)) (by decide +kernel)
theorem wd_2765 : (Jvm.Cond.selects "NoteDocumentModel" ({ cls := "NoteDocumentModel", name := "insert", desc := "(II)I" } : Jvm.MethodName) ({ cls := "NoteDocumentModel", name := "insert", desc := "(II)I" } : Jvm.MethodName)) ∈ BIG := big_t (List.mem_of_getElem? (i := 2765) (by decide +kernel)) (by decide +kernel)
theorem dM_L_law_2540 : decode cM_L_law 2540 = .ok (.istore 6, 2) := dz_o54 (lT_79 12) (lT_79 13) (by decide +kernel)
theorem dM_L_law_2542 : decode cM_L_law 2542 = .ok (.aload_n 2, 1) := dz_o44 (lT_79 14)
theorem dM_L_law_2543 : decode cM_L_law 2543 = .ok (.invokevirtual 158, 3) := dz_o182 (lT_79 15) (lT_79 16) (lT_79 17) (by decide +kernel)
theorem dM_L_law_2546 : decode cM_L_law 2546 = .ok (.iload 5, 2) := dz_o21 (lT_79 18) (lT_79 19) (by decide +kernel)
theorem dM_L_law_2548 : decode cM_L_law 2548 = .ok (.if_icmp .eq 5, 3) := dz_o159 (lT_79 20) (lT_79 21) (lT_79 22) (by decide +kernel)
theorem dM_L_law_2553 : decode cM_L_law 2553 = .ok (.iload 5, 2) := dz_o21 (lT_79 25) (lT_79 26) (by decide +kernel)
theorem dM_L_law_2555 : decode cM_L_law 2555 = .ok (.ifCond .ne 15, 3) := dz_o154 (lT_79 27) (lT_79 28) (lT_79 29) (by decide +kernel)
theorem dM_L_law_2570 : decode cM_L_law 2570 = .ok (.goto 840, 3) := dz_o167 (lT_80 10) (lT_80 11) (lT_80 12) (by decide +kernel)
theorem dM_L_law_2573 : decode cM_L_law 2573 = .ok (.aload_n 1, 1) := dz_o43 (lT_80 13)
theorem dM_L_law_2574 : decode cM_L_law 2574 = .ok (.aload_n 0, 1) := dz_o42 (lT_80 14)
theorem dM_L_law_2575 : decode cM_L_law 2575 = .ok (.iload 4, 2) := dz_o21 (lT_80 15) (lT_80 16) (by decide +kernel)
theorem dM_L_law_2577 : decode cM_L_law 2577 = .ok (.iconst 1, 1) := dz_o4 (lT_80 17)
theorem dM_L_law_2578 : decode cM_L_law 2578 = .ok (.iadd, 1) := dz_o96 (lT_80 18)
theorem dM_L_law_2579 : decode cM_L_law 2579 = .ok (.iaload, 1) := dz_o46 (lT_80 19)
theorem dM_L_law_2580 : decode cM_L_law 2580 = .ok (.aload_n 0, 1) := dz_o42 (lT_80 20)
theorem dM_L_law_2581 : decode cM_L_law 2581 = .ok (.iload 4, 2) := dz_o21 (lT_80 21) (lT_80 22) (by decide +kernel)
theorem dM_L_law_2583 : decode cM_L_law 2583 = .ok (.iconst 2, 1) := dz_o5 (lT_80 23)
theorem dM_L_law_2584 : decode cM_L_law 2584 = .ok (.iadd, 1) := dz_o96 (lT_80 24)
theorem dM_L_law_2585 : decode cM_L_law 2585 = .ok (.iaload, 1) := dz_o46 (lT_80 25)
theorem dM_L_law_2586 : decode cM_L_law 2586 = .ok (.aload_n 3, 1) := dz_o45 (lT_80 26)
theorem dM_L_law_2587 : decode cM_L_law 2587 = .ok (.invokestatic 277, 3) := dz_o184 (lT_80 27) (lT_80 28) (lT_80 29) (by decide +kernel)
theorem wd_1809 : (Jvm.Cond.codeWith ({ cls := "NoteDocumentLaw", name := "remove", desc := "(LNoteDocument;II[J)I" } : Jvm.MethodName) method_33_code (5 : Nat) (Option.some Jvm.ClassFile.FieldType.int) [((0 : Nat), (10 : Nat), (13 : Nat), (21 : Nat)), ((0 : Nat), (10 : Nat), (17 : Nat), (15 : Nat))]) ∈ BIG := big_t (List.mem_of_getElem? (i := 1809) (by decide +kernel)) (by decide +kernel)
theorem wd_1807 : (Jvm.Cond.methodLink "NoteDocumentLaw" (277 : Nat) ({ cls := "NoteDocumentLaw", name := "remove", desc := "(LNoteDocument;II[J)I" } : Jvm.MethodName)) ∈ BIG := big_t (List.mem_of_getElem? (i := 1807) (by decide +kernel)) (by decide +kernel)
theorem wd_1808 : (Jvm.Cond.static ({ cls := "NoteDocumentLaw", name := "remove", desc := "(LNoteDocument;II[J)I" } : Jvm.MethodName)) ∈ BIG := big_t (List.mem_of_getElem? (i := 1808) (by decide +kernel)) (by decide +kernel)
theorem dM_L_law_2590 : decode cM_L_law 2590 = .ok (.istore 5, 2) := dz_o54 (lT_80 30) (lT_80 31) (by decide +kernel)
theorem dM_L_law_2592 : decode cM_L_law 2592 = .ok (.aload_n 2, 1) := dz_o44 (lT_81 0)
theorem dM_L_law_2593 : decode cM_L_law 2593 = .ok (.aload_n 0, 1) := dz_o42 (lT_81 1)
theorem dM_L_law_2594 : decode cM_L_law 2594 = .ok (.iload 4, 2) := dz_o21 (lT_81 2) (lT_81 3) (by decide +kernel)
theorem dM_L_law_2596 : decode cM_L_law 2596 = .ok (.iconst 1, 1) := dz_o4 (lT_81 4)
theorem dM_L_law_2597 : decode cM_L_law 2597 = .ok (.iadd, 1) := dz_o96 (lT_81 5)
theorem dM_L_law_2598 : decode cM_L_law 2598 = .ok (.iaload, 1) := dz_o46 (lT_81 6)
theorem dM_L_law_2599 : decode cM_L_law 2599 = .ok (.aload_n 0, 1) := dz_o42 (lT_81 7)
theorem dM_L_law_2600 : decode cM_L_law 2600 = .ok (.iload 4, 2) := dz_o21 (lT_81 8) (lT_81 9) (by decide +kernel)
theorem dM_L_law_2602 : decode cM_L_law 2602 = .ok (.iconst 2, 1) := dz_o5 (lT_81 10)
theorem dM_L_law_2603 : decode cM_L_law 2603 = .ok (.iadd, 1) := dz_o96 (lT_81 11)
theorem dM_L_law_2604 : decode cM_L_law 2604 = .ok (.iaload, 1) := dz_o46 (lT_81 12)
theorem dM_L_law_2605 : decode cM_L_law 2605 = .ok (.invokevirtual 279, 3) := dz_o182 (lT_81 13) (lT_81 14) (lT_81 15) (by decide +kernel)
theorem wd_2798 : (Jvm.Cond.code ({ cls := "NoteDocumentModel", name := "remove", desc := "(II)I" } : Jvm.MethodName) prog_13_method_68_code (7 : Nat) (Option.some Jvm.ClassFile.FieldType.int)) ∈ BIG := big_t (List.mem_of_getElem? (i := 2798) (by decide +kernel)) (by decide +kernel)
theorem wd_2795 : (Jvm.Cond.methodLink "NoteDocumentLaw" (279 : Nat) ({ cls := "NoteDocumentModel", name := "remove", desc := "(II)I" } : Jvm.MethodName)) ∈ BIG := big_t (List.mem_of_getElem? (i := 2795) (by decide +kernel)) (by decide +kernel)
theorem wd_2796 : (Jvm.Cond.instanceMethod ({ cls := "NoteDocumentModel", name := "remove", desc := "(II)I" } : Jvm.MethodName)) ∈ BIG := big_t (List.mem_of_getElem? (i := 2796) (by decide +kernel)) (by decide +kernel)
theorem wd_2797 : (Jvm.Cond.selects "NoteDocumentModel" ({ cls := "NoteDocumentModel", name := "remove", desc := "(II)I" } : Jvm.MethodName) ({ cls := "NoteDocumentModel", name := "remove", desc := "(II)I" } : Jvm.MethodName)) ∈ BIG := big_t (List.mem_of_getElem? (i := 2797) (by decide +kernel)) (by decide +kernel)
theorem dM_L_law_2608 : decode cM_L_law 2608 = .ok (.istore 6, 2) := dz_o54 (lT_81 16) (lT_81 17) (by decide +kernel)
theorem dM_L_law_2610 : decode cM_L_law 2610 = .ok (.aload_n 2, 1) := dz_o44 (lT_81 18)
theorem dM_L_law_2611 : decode cM_L_law 2611 = .ok (.invokevirtual 158, 3) := dz_o182 (lT_81 19) (lT_81 20) (lT_81 21) (by decide +kernel)
theorem dM_L_law_2614 : decode cM_L_law 2614 = .ok (.iload 5, 2) := dz_o21 (lT_81 22) (lT_81 23) (by decide +kernel)
theorem dM_L_law_2616 : decode cM_L_law 2616 = .ok (.if_icmp .eq 5, 3) := dz_o159 (lT_81 24) (lT_81 25) (lT_81 26) (by decide +kernel)
theorem dM_L_law_2621 : decode cM_L_law 2621 = .ok (.iload 5, 2) := dz_o21 (lT_81 29) (lT_81 30) (by decide +kernel)
theorem dM_L_law_2623 : decode cM_L_law 2623 = .ok (.ifCond .ne 15, 3) := dz_o154 (lT_81 31) (lT_82 0) (lT_82 1) (by decide +kernel)
theorem dM_L_law_2638 : decode cM_L_law 2638 = .ok (.goto 772, 3) := dz_o167 (lT_82 14) (lT_82 15) (lT_82 16) (by decide +kernel)
theorem dM_L_law_2641 : decode cM_L_law 2641 = .ok (.aload_n 1, 1) := dz_o43 (lT_82 17)
theorem dM_L_law_2642 : decode cM_L_law 2642 = .ok (.aload_n 0, 1) := dz_o42 (lT_82 18)
theorem dM_L_law_2643 : decode cM_L_law 2643 = .ok (.iload 4, 2) := dz_o21 (lT_82 19) (lT_82 20) (by decide +kernel)
theorem dM_L_law_2645 : decode cM_L_law 2645 = .ok (.iconst 1, 1) := dz_o4 (lT_82 21)
theorem dM_L_law_2646 : decode cM_L_law 2646 = .ok (.iadd, 1) := dz_o96 (lT_82 22)
theorem dM_L_law_2647 : decode cM_L_law 2647 = .ok (.iaload, 1) := dz_o46 (lT_82 23)
theorem dM_L_law_2648 : decode cM_L_law 2648 = .ok (.aload_n 0, 1) := dz_o42 (lT_82 24)
theorem dM_L_law_2649 : decode cM_L_law 2649 = .ok (.iload 4, 2) := dz_o21 (lT_82 25) (lT_82 26) (by decide +kernel)
theorem dM_L_law_2651 : decode cM_L_law 2651 = .ok (.iconst 2, 1) := dz_o5 (lT_82 27)
theorem dM_L_law_2652 : decode cM_L_law 2652 = .ok (.iadd, 1) := dz_o96 (lT_82 28)
theorem dM_L_law_2653 : decode cM_L_law 2653 = .ok (.iaload, 1) := dz_o46 (lT_82 29)
theorem dM_L_law_2654 : decode cM_L_law 2654 = .ok (.aload_n 0, 1) := dz_o42 (lT_82 30)
theorem dM_L_law_2655 : decode cM_L_law 2655 = .ok (.iload 4, 2) := dz_o21 (lT_82 31) (lT_83 0) (by decide +kernel)
theorem dM_L_law_2657 : decode cM_L_law 2657 = .ok (.iconst 3, 1) := dz_o6 (lT_83 1)
theorem dM_L_law_2658 : decode cM_L_law 2658 = .ok (.iadd, 1) := dz_o96 (lT_83 2)
theorem dM_L_law_2659 : decode cM_L_law 2659 = .ok (.iaload, 1) := dz_o46 (lT_83 3)
theorem dM_L_law_2660 : decode cM_L_law 2660 = .ok (.aload_n 0, 1) := dz_o42 (lT_83 4)
theorem dM_L_law_2661 : decode cM_L_law 2661 = .ok (.iload 4, 2) := dz_o21 (lT_83 5) (lT_83 6) (by decide +kernel)
theorem dM_L_law_2663 : decode cM_L_law 2663 = .ok (.iconst 4, 1) := dz_o7 (lT_83 7)
theorem dM_L_law_2664 : decode cM_L_law 2664 = .ok (.iadd, 1) := dz_o96 (lT_83 8)
theorem dM_L_law_2665 : decode cM_L_law 2665 = .ok (.iaload, 1) := dz_o46 (lT_83 9)
theorem dM_L_law_2666 : decode cM_L_law 2666 = .ok (.aload_n 0, 1) := dz_o42 (lT_83 10)
theorem dM_L_law_2667 : decode cM_L_law 2667 = .ok (.iload 4, 2) := dz_o21 (lT_83 11) (lT_83 12) (by decide +kernel)
theorem dM_L_law_2669 : decode cM_L_law 2669 = .ok (.iconst 5, 1) := dz_o8 (lT_83 13)
theorem dM_L_law_2670 : decode cM_L_law 2670 = .ok (.iadd, 1) := dz_o96 (lT_83 14)
theorem dM_L_law_2671 : decode cM_L_law 2671 = .ok (.iaload, 1) := dz_o46 (lT_83 15)
theorem dM_L_law_2672 : decode cM_L_law 2672 = .ok (.aload_n 3, 1) := dz_o45 (lT_83 16)
theorem dM_L_law_2673 : decode cM_L_law 2673 = .ok (.invokestatic 280, 3) := dz_o184 (lT_83 17) (lT_83 18) (lT_83 19) (by decide +kernel)
theorem wd_1821 : (Jvm.Cond.codeWith ({ cls := "NoteDocumentLaw", name := "move", desc := "(LNoteDocument;IIIII[J)I" } : Jvm.MethodName) method_34_code (8 : Nat) (Option.some Jvm.ClassFile.FieldType.int) [((0 : Nat), (16 : Nat), (19 : Nat), (21 : Nat)), ((0 : Nat), (16 : Nat), (23 : Nat), (13 : Nat)), ((0 : Nat), (16 : Nat), (27 : Nat), (15 : Nat))]) ∈ BIG := big_t (List.mem_of_getElem? (i := 1821) (by decide +kernel)) (by decide +kernel)
theorem wd_1819 : (Jvm.Cond.methodLink "NoteDocumentLaw" (280 : Nat) ({ cls := "NoteDocumentLaw", name := "move", desc := "(LNoteDocument;IIIII[J)I" } : Jvm.MethodName)) ∈ BIG := big_t (List.mem_of_getElem? (i := 1819) (by decide +kernel)) (by decide +kernel)
theorem wd_1820 : (Jvm.Cond.static ({ cls := "NoteDocumentLaw", name := "move", desc := "(LNoteDocument;IIIII[J)I" } : Jvm.MethodName)) ∈ BIG := big_t (List.mem_of_getElem? (i := 1820) (by decide +kernel)) (by decide +kernel)
theorem dM_L_law_2676 : decode cM_L_law 2676 = .ok (.istore 5, 2) := dz_o54 (lT_83 20) (lT_83 21) (by decide +kernel)
theorem dM_L_law_2678 : decode cM_L_law 2678 = .ok (.aload_n 2, 1) := dz_o44 (lT_83 22)
theorem dM_L_law_2679 : decode cM_L_law 2679 = .ok (.aload_n 0, 1) := dz_o42 (lT_83 23)
theorem dM_L_law_2680 : decode cM_L_law 2680 = .ok (.iload 4, 2) := dz_o21 (lT_83 24) (lT_83 25) (by decide +kernel)
theorem dM_L_law_2682 : decode cM_L_law 2682 = .ok (.iconst 1, 1) := dz_o4 (lT_83 26)
theorem dM_L_law_2683 : decode cM_L_law 2683 = .ok (.iadd, 1) := dz_o96 (lT_83 27)
theorem dM_L_law_2684 : decode cM_L_law 2684 = .ok (.iaload, 1) := dz_o46 (lT_83 28)
theorem dM_L_law_2685 : decode cM_L_law 2685 = .ok (.aload_n 0, 1) := dz_o42 (lT_83 29)
theorem dM_L_law_2686 : decode cM_L_law 2686 = .ok (.iload 4, 2) := dz_o21 (lT_83 30) (lT_83 31) (by decide +kernel)
theorem dM_L_law_2688 : decode cM_L_law 2688 = .ok (.iconst 2, 1) := dz_o5 (lT_84 0)
theorem dM_L_law_2689 : decode cM_L_law 2689 = .ok (.iadd, 1) := dz_o96 (lT_84 1)
theorem dM_L_law_2690 : decode cM_L_law 2690 = .ok (.iaload, 1) := dz_o46 (lT_84 2)
theorem dM_L_law_2691 : decode cM_L_law 2691 = .ok (.aload_n 0, 1) := dz_o42 (lT_84 3)
theorem dM_L_law_2692 : decode cM_L_law 2692 = .ok (.iload 4, 2) := dz_o21 (lT_84 4) (lT_84 5) (by decide +kernel)
theorem dM_L_law_2694 : decode cM_L_law 2694 = .ok (.iconst 3, 1) := dz_o6 (lT_84 6)
theorem dM_L_law_2695 : decode cM_L_law 2695 = .ok (.iadd, 1) := dz_o96 (lT_84 7)
theorem dM_L_law_2696 : decode cM_L_law 2696 = .ok (.iaload, 1) := dz_o46 (lT_84 8)
theorem dM_L_law_2697 : decode cM_L_law 2697 = .ok (.aload_n 0, 1) := dz_o42 (lT_84 9)
theorem dM_L_law_2698 : decode cM_L_law 2698 = .ok (.iload 4, 2) := dz_o21 (lT_84 10) (lT_84 11) (by decide +kernel)
theorem dM_L_law_2700 : decode cM_L_law 2700 = .ok (.iconst 4, 1) := dz_o7 (lT_84 12)
theorem dM_L_law_2701 : decode cM_L_law 2701 = .ok (.iadd, 1) := dz_o96 (lT_84 13)
theorem dM_L_law_2702 : decode cM_L_law 2702 = .ok (.iaload, 1) := dz_o46 (lT_84 14)
theorem dM_L_law_2703 : decode cM_L_law 2703 = .ok (.aload_n 0, 1) := dz_o42 (lT_84 15)
theorem dM_L_law_2704 : decode cM_L_law 2704 = .ok (.iload 4, 2) := dz_o21 (lT_84 16) (lT_84 17) (by decide +kernel)
theorem dM_L_law_2706 : decode cM_L_law 2706 = .ok (.iconst 5, 1) := dz_o8 (lT_84 18)
theorem dM_L_law_2707 : decode cM_L_law 2707 = .ok (.iadd, 1) := dz_o96 (lT_84 19)
theorem dM_L_law_2708 : decode cM_L_law 2708 = .ok (.iaload, 1) := dz_o46 (lT_84 20)
theorem dM_L_law_2709 : decode cM_L_law 2709 = .ok (.invokevirtual 282, 3) := dz_o182 (lT_84 21) (lT_84 22) (lT_84 23) (by decide +kernel)
theorem wd_2802 : (Jvm.Cond.code ({ cls := "NoteDocumentModel", name := "move", desc := "(IIIII)I" } : Jvm.MethodName) prog_13_method_69_code (9 : Nat) (Option.some Jvm.ClassFile.FieldType.int)) ∈ BIG := big_t (List.mem_of_getElem? (i := 2802) (by decide +kernel)) (by decide +kernel)
theorem wd_2799 : (Jvm.Cond.methodLink "NoteDocumentLaw" (282 : Nat) ({ cls := "NoteDocumentModel", name := "move", desc := "(IIIII)I" } : Jvm.MethodName)) ∈ BIG := big_t (List.mem_of_getElem? (i := 2799) (by decide +kernel)) (by decide +kernel)
theorem wd_2800 : (Jvm.Cond.instanceMethod ({ cls := "NoteDocumentModel", name := "move", desc := "(IIIII)I" } : Jvm.MethodName)) ∈ BIG := big_t (List.mem_of_getElem? (i := 2800) (by decide +kernel)) (by decide +kernel)
theorem wd_2801 : (Jvm.Cond.selects "NoteDocumentModel" ({ cls := "NoteDocumentModel", name := "move", desc := "(IIIII)I" } : Jvm.MethodName) ({ cls := "NoteDocumentModel", name := "move", desc := "(IIIII)I" } : Jvm.MethodName)) ∈ BIG := big_t (List.mem_of_getElem? (i := 2801) (by decide +kernel)) (by decide +kernel)
theorem dM_L_law_2712 : decode cM_L_law 2712 = .ok (.istore 6, 2) := dz_o54 (lT_84 24) (lT_84 25) (by decide +kernel)
theorem dM_L_law_2714 : decode cM_L_law 2714 = .ok (.aload_n 2, 1) := dz_o44 (lT_84 26)
theorem dM_L_law_2715 : decode cM_L_law 2715 = .ok (.invokevirtual 158, 3) := dz_o182 (lT_84 27) (lT_84 28) (lT_84 29) (by decide +kernel)
theorem dM_L_law_2718 : decode cM_L_law 2718 = .ok (.iload 5, 2) := dz_o21 (lT_84 30) (lT_84 31) (by decide +kernel)
theorem dM_L_law_2720 : decode cM_L_law 2720 = .ok (.if_icmp .eq 5, 3) := dz_o159 (lT_85 0) (lT_85 1) (lT_85 2) (by decide +kernel)
theorem dM_L_law_2725 : decode cM_L_law 2725 = .ok (.iload 5, 2) := dz_o21 (lT_85 5) (lT_85 6) (by decide +kernel)
theorem dM_L_law_2727 : decode cM_L_law 2727 = .ok (.ifCond .ne 15, 3) := dz_o154 (lT_85 7) (lT_85 8) (lT_85 9) (by decide +kernel)
theorem dM_L_law_2742 : decode cM_L_law 2742 = .ok (.goto 668, 3) := dz_o167 (lT_85 22) (lT_85 23) (lT_85 24) (by decide +kernel)
theorem dM_L_law_2745 : decode cM_L_law 2745 = .ok (.aload_n 1, 1) := dz_o43 (lT_85 25)
theorem dM_L_law_2746 : decode cM_L_law 2746 = .ok (.aload_n 0, 1) := dz_o42 (lT_85 26)
theorem dM_L_law_2747 : decode cM_L_law 2747 = .ok (.iload 4, 2) := dz_o21 (lT_85 27) (lT_85 28) (by decide +kernel)
theorem dM_L_law_2749 : decode cM_L_law 2749 = .ok (.iconst 1, 1) := dz_o4 (lT_85 29)
theorem dM_L_law_2750 : decode cM_L_law 2750 = .ok (.iadd, 1) := dz_o96 (lT_85 30)
theorem dM_L_law_2751 : decode cM_L_law 2751 = .ok (.iaload, 1) := dz_o46 (lT_85 31)
theorem dM_L_law_2752 : decode cM_L_law 2752 = .ok (.aload_n 0, 1) := dz_o42 (lT_86 0)
theorem dM_L_law_2753 : decode cM_L_law 2753 = .ok (.iload 4, 2) := dz_o21 (lT_86 1) (lT_86 2) (by decide +kernel)
theorem dM_L_law_2755 : decode cM_L_law 2755 = .ok (.iconst 2, 1) := dz_o5 (lT_86 3)
theorem dM_L_law_2756 : decode cM_L_law 2756 = .ok (.iadd, 1) := dz_o96 (lT_86 4)
theorem dM_L_law_2757 : decode cM_L_law 2757 = .ok (.iaload, 1) := dz_o46 (lT_86 5)
theorem dM_L_law_2758 : decode cM_L_law 2758 = .ok (.aload_n 0, 1) := dz_o42 (lT_86 6)
theorem dM_L_law_2759 : decode cM_L_law 2759 = .ok (.iload 4, 2) := dz_o21 (lT_86 7) (lT_86 8) (by decide +kernel)
theorem dM_L_law_2761 : decode cM_L_law 2761 = .ok (.iconst 3, 1) := dz_o6 (lT_86 9)
theorem dM_L_law_2762 : decode cM_L_law 2762 = .ok (.iadd, 1) := dz_o96 (lT_86 10)
theorem dM_L_law_2763 : decode cM_L_law 2763 = .ok (.iaload, 1) := dz_o46 (lT_86 11)
theorem dM_L_law_2764 : decode cM_L_law 2764 = .ok (.aload_n 0, 1) := dz_o42 (lT_86 12)
theorem dM_L_law_2765 : decode cM_L_law 2765 = .ok (.iload 4, 2) := dz_o21 (lT_86 13) (lT_86 14) (by decide +kernel)
theorem dM_L_law_2767 : decode cM_L_law 2767 = .ok (.iconst 4, 1) := dz_o7 (lT_86 15)
theorem dM_L_law_2768 : decode cM_L_law 2768 = .ok (.iadd, 1) := dz_o96 (lT_86 16)
theorem dM_L_law_2769 : decode cM_L_law 2769 = .ok (.iaload, 1) := dz_o46 (lT_86 17)
theorem dM_L_law_2770 : decode cM_L_law 2770 = .ok (.aload_n 3, 1) := dz_o45 (lT_86 18)
theorem dM_L_law_2771 : decode cM_L_law 2771 = .ok (.invokestatic 283, 3) := dz_o184 (lT_86 19) (lT_86 20) (lT_86 21) (by decide +kernel)
theorem wd_1839 : (Jvm.Cond.codeWith ({ cls := "NoteDocumentLaw", name := "sort", desc := "(LNoteDocument;IIII[J)I" } : Jvm.MethodName) method_35_code (7 : Nat) (Option.some Jvm.ClassFile.FieldType.int) [((0 : Nat), (14 : Nat), (17 : Nat), (21 : Nat)), ((0 : Nat), (14 : Nat), (21 : Nat), (13 : Nat))]) ∈ BIG := big_t (List.mem_of_getElem? (i := 1839) (by decide +kernel)) (by decide +kernel)
theorem wd_1837 : (Jvm.Cond.methodLink "NoteDocumentLaw" (283 : Nat) ({ cls := "NoteDocumentLaw", name := "sort", desc := "(LNoteDocument;IIII[J)I" } : Jvm.MethodName)) ∈ BIG := big_t (List.mem_of_getElem? (i := 1837) (by decide +kernel)) (by decide +kernel)
theorem wd_1838 : (Jvm.Cond.static ({ cls := "NoteDocumentLaw", name := "sort", desc := "(LNoteDocument;IIII[J)I" } : Jvm.MethodName)) ∈ BIG := big_t (List.mem_of_getElem? (i := 1838) (by decide +kernel)) (by decide +kernel)
theorem dM_L_law_2774 : decode cM_L_law 2774 = .ok (.istore 5, 2) := dz_o54 (lT_86 22) (lT_86 23) (by decide +kernel)
theorem dM_L_law_2776 : decode cM_L_law 2776 = .ok (.aload_n 2, 1) := dz_o44 (lT_86 24)
theorem dM_L_law_2777 : decode cM_L_law 2777 = .ok (.aload_n 0, 1) := dz_o42 (lT_86 25)
theorem dM_L_law_2778 : decode cM_L_law 2778 = .ok (.iload 4, 2) := dz_o21 (lT_86 26) (lT_86 27) (by decide +kernel)
theorem dM_L_law_2780 : decode cM_L_law 2780 = .ok (.iconst 1, 1) := dz_o4 (lT_86 28)
theorem dM_L_law_2781 : decode cM_L_law 2781 = .ok (.iadd, 1) := dz_o96 (lT_86 29)
theorem dM_L_law_2782 : decode cM_L_law 2782 = .ok (.iaload, 1) := dz_o46 (lT_86 30)
theorem dM_L_law_2783 : decode cM_L_law 2783 = .ok (.aload_n 0, 1) := dz_o42 (lT_86 31)
theorem dM_L_law_2784 : decode cM_L_law 2784 = .ok (.iload 4, 2) := dz_o21 (lT_87 0) (lT_87 1) (by decide +kernel)
theorem dM_L_law_2786 : decode cM_L_law 2786 = .ok (.iconst 2, 1) := dz_o5 (lT_87 2)
theorem dM_L_law_2787 : decode cM_L_law 2787 = .ok (.iadd, 1) := dz_o96 (lT_87 3)
theorem dM_L_law_2788 : decode cM_L_law 2788 = .ok (.iaload, 1) := dz_o46 (lT_87 4)
theorem dM_L_law_2789 : decode cM_L_law 2789 = .ok (.aload_n 0, 1) := dz_o42 (lT_87 5)
theorem dM_L_law_2790 : decode cM_L_law 2790 = .ok (.iload 4, 2) := dz_o21 (lT_87 6) (lT_87 7) (by decide +kernel)
theorem dM_L_law_2792 : decode cM_L_law 2792 = .ok (.iconst 3, 1) := dz_o6 (lT_87 8)
theorem dM_L_law_2793 : decode cM_L_law 2793 = .ok (.iadd, 1) := dz_o96 (lT_87 9)
theorem dM_L_law_2794 : decode cM_L_law 2794 = .ok (.iaload, 1) := dz_o46 (lT_87 10)
theorem dM_L_law_2795 : decode cM_L_law 2795 = .ok (.aload_n 0, 1) := dz_o42 (lT_87 11)
theorem dM_L_law_2796 : decode cM_L_law 2796 = .ok (.iload 4, 2) := dz_o21 (lT_87 12) (lT_87 13) (by decide +kernel)
theorem dM_L_law_2798 : decode cM_L_law 2798 = .ok (.iconst 4, 1) := dz_o7 (lT_87 14)
theorem dM_L_law_2799 : decode cM_L_law 2799 = .ok (.iadd, 1) := dz_o96 (lT_87 15)
theorem dM_L_law_2800 : decode cM_L_law 2800 = .ok (.iaload, 1) := dz_o46 (lT_87 16)
theorem dM_L_law_2801 : decode cM_L_law 2801 = .ok (.invokevirtual 285, 3) := dz_o182 (lT_87 17) (lT_87 18) (lT_87 19) (by decide +kernel)
theorem wd_2810 : (Jvm.Cond.code ({ cls := "NoteDocumentModel", name := "sort", desc := "(IIII)I" } : Jvm.MethodName) prog_13_method_71_code (12 : Nat) (Option.some Jvm.ClassFile.FieldType.int)) ∈ BIG := big_t (List.mem_of_getElem? (i := 2810) (by decide +kernel)) (by decide +kernel)
theorem wd_2807 : (Jvm.Cond.methodLink "NoteDocumentLaw" (285 : Nat) ({ cls := "NoteDocumentModel", name := "sort", desc := "(IIII)I" } : Jvm.MethodName)) ∈ BIG := big_t (List.mem_of_getElem? (i := 2807) (by decide +kernel)) (by decide +kernel)
theorem wd_2808 : (Jvm.Cond.instanceMethod ({ cls := "NoteDocumentModel", name := "sort", desc := "(IIII)I" } : Jvm.MethodName)) ∈ BIG := big_t (List.mem_of_getElem? (i := 2808) (by decide +kernel)) (by decide +kernel)
theorem wd_2809 : (Jvm.Cond.selects "NoteDocumentModel" ({ cls := "NoteDocumentModel", name := "sort", desc := "(IIII)I" } : Jvm.MethodName) ({ cls := "NoteDocumentModel", name := "sort", desc := "(IIII)I" } : Jvm.MethodName)) ∈ BIG := big_t (List.mem_of_getElem? (i := 2809) (by decide +kernel)) (by decide +kernel)
theorem dM_L_law_2804 : decode cM_L_law 2804 = .ok (.istore 6, 2) := dz_o54 (lT_87 20) (lT_87 21) (by decide +kernel)
theorem dM_L_law_2806 : decode cM_L_law 2806 = .ok (.aload_n 2, 1) := dz_o44 (lT_87 22)
theorem dM_L_law_2807 : decode cM_L_law 2807 = .ok (.invokevirtual 158, 3) := dz_o182 (lT_87 23) (lT_87 24) (lT_87 25) (by decide +kernel)
theorem dM_L_law_2810 : decode cM_L_law 2810 = .ok (.iload 5, 2) := dz_o21 (lT_87 26) (lT_87 27) (by decide +kernel)
theorem dM_L_law_2812 : decode cM_L_law 2812 = .ok (.if_icmp .eq 5, 3) := dz_o159 (lT_87 28) (lT_87 29) (lT_87 30) (by decide +kernel)
theorem dM_L_law_2817 : decode cM_L_law 2817 = .ok (.iload 5, 2) := dz_o21 (lT_88 1) (lT_88 2) (by decide +kernel)
theorem dM_L_law_2819 : decode cM_L_law 2819 = .ok (.ifCond .ne 15, 3) := dz_o154 (lT_88 3) (lT_88 4) (lT_88 5) (by decide +kernel)
theorem dM_L_law_2834 : decode cM_L_law 2834 = .ok (.goto 576, 3) := dz_o167 (lT_88 18) (lT_88 19) (lT_88 20) (by decide +kernel)
theorem dM_L_law_2837 : decode cM_L_law 2837 = .ok (.aload_n 1, 1) := dz_o43 (lT_88 21)
theorem dM_L_law_2838 : decode cM_L_law 2838 = .ok (.aload_n 0, 1) := dz_o42 (lT_88 22)
theorem dM_L_law_2839 : decode cM_L_law 2839 = .ok (.iload 4, 2) := dz_o21 (lT_88 23) (lT_88 24) (by decide +kernel)
theorem dM_L_law_2841 : decode cM_L_law 2841 = .ok (.iconst 1, 1) := dz_o4 (lT_88 25)
theorem dM_L_law_2842 : decode cM_L_law 2842 = .ok (.iadd, 1) := dz_o96 (lT_88 26)
theorem dM_L_law_2843 : decode cM_L_law 2843 = .ok (.iaload, 1) := dz_o46 (lT_88 27)
theorem dM_L_law_2844 : decode cM_L_law 2844 = .ok (.aload_n 0, 1) := dz_o42 (lT_88 28)
theorem dM_L_law_2845 : decode cM_L_law 2845 = .ok (.iload 4, 2) := dz_o21 (lT_88 29) (lT_88 30) (by decide +kernel)
theorem dM_L_law_2847 : decode cM_L_law 2847 = .ok (.iconst 2, 1) := dz_o5 (lT_88 31)
theorem dM_L_law_2848 : decode cM_L_law 2848 = .ok (.iadd, 1) := dz_o96 (lT_89 0)
theorem dM_L_law_2849 : decode cM_L_law 2849 = .ok (.iaload, 1) := dz_o46 (lT_89 1)
theorem dM_L_law_2850 : decode cM_L_law 2850 = .ok (.aload_n 0, 1) := dz_o42 (lT_89 2)
theorem dM_L_law_2851 : decode cM_L_law 2851 = .ok (.iload 4, 2) := dz_o21 (lT_89 3) (lT_89 4) (by decide +kernel)
theorem dM_L_law_2853 : decode cM_L_law 2853 = .ok (.iconst 3, 1) := dz_o6 (lT_89 5)
theorem dM_L_law_2854 : decode cM_L_law 2854 = .ok (.iadd, 1) := dz_o96 (lT_89 6)
theorem dM_L_law_2855 : decode cM_L_law 2855 = .ok (.iaload, 1) := dz_o46 (lT_89 7)
theorem dM_L_law_2856 : decode cM_L_law 2856 = .ok (.aload_n 0, 1) := dz_o42 (lT_89 8)
theorem dM_L_law_2857 : decode cM_L_law 2857 = .ok (.iload 4, 2) := dz_o21 (lT_89 9) (lT_89 10) (by decide +kernel)
theorem dM_L_law_2859 : decode cM_L_law 2859 = .ok (.iconst 4, 1) := dz_o7 (lT_89 11)
theorem dM_L_law_2860 : decode cM_L_law 2860 = .ok (.iadd, 1) := dz_o96 (lT_89 12)
theorem dM_L_law_2861 : decode cM_L_law 2861 = .ok (.iaload, 1) := dz_o46 (lT_89 13)
theorem dM_L_law_2862 : decode cM_L_law 2862 = .ok (.aload_n 0, 1) := dz_o42 (lT_89 14)
theorem dM_L_law_2863 : decode cM_L_law 2863 = .ok (.iload 4, 2) := dz_o21 (lT_89 15) (lT_89 16) (by decide +kernel)
theorem dM_L_law_2865 : decode cM_L_law 2865 = .ok (.iconst 5, 1) := dz_o8 (lT_89 17)
theorem dM_L_law_2866 : decode cM_L_law 2866 = .ok (.iadd, 1) := dz_o96 (lT_89 18)
theorem dM_L_law_2867 : decode cM_L_law 2867 = .ok (.iaload, 1) := dz_o46 (lT_89 19)
theorem dM_L_law_2868 : decode cM_L_law 2868 = .ok (.i2l, 1) := dz_o133 (lT_89 20)
theorem dM_L_law_2869 : decode cM_L_law 2869 = .ok (.bipush 32, 2) := dz_o16 (lT_89 21) (lT_89 22) (by decide +kernel)
theorem dM_L_law_2871 : decode cM_L_law 2871 = .ok (.lshl, 1) := dz_o121 (lT_89 23)
theorem dM_L_law_2872 : decode cM_L_law 2872 = .ok (.aload_n 0, 1) := dz_o42 (lT_89 24)
theorem dM_L_law_2873 : decode cM_L_law 2873 = .ok (.iload 4, 2) := dz_o21 (lT_89 25) (lT_89 26) (by decide +kernel)
theorem dM_L_law_2875 : decode cM_L_law 2875 = .ok (.bipush 6, 2) := dz_o16 (lT_89 27) (lT_89 28) (by decide +kernel)
theorem dM_L_law_2877 : decode cM_L_law 2877 = .ok (.iadd, 1) := dz_o96 (lT_89 29)
theorem dM_L_law_2878 : decode cM_L_law 2878 = .ok (.iaload, 1) := dz_o46 (lT_89 30)
theorem dM_L_law_2879 : decode cM_L_law 2879 = .ok (.i2l, 1) := dz_o133 (lT_89 31)
theorem dM_L_law_2880 : decode cM_L_law 2880 = .ok (.ldc2_w 165, 3) := dz_o20 (lT_90 0) (lT_90 1) (lT_90 2) (by decide +kernel)
theorem dM_L_law_2883 : decode cM_L_law 2883 = .ok (.land, 1) := dz_o127 (lT_90 3)
theorem dM_L_law_2884 : decode cM_L_law 2884 = .ok (.lor, 1) := dz_o129 (lT_90 4)
theorem dM_L_law_2885 : decode cM_L_law 2885 = .ok (.aload_n 3, 1) := dz_o45 (lT_90 5)
theorem dM_L_law_2886 : decode cM_L_law 2886 = .ok (.invokestatic 286, 3) := dz_o184 (lT_90 6) (lT_90 7) (lT_90 8) (by decide +kernel)
theorem wd_1856 : (Jvm.Cond.codeWith ({ cls := "NoteDocumentLaw", name := "overlay", desc := "(LNoteDocument;IIIIJ[J)I" } : Jvm.MethodName) method_36_code (9 : Nat) (Option.some Jvm.ClassFile.FieldType.int) [((0 : Nat), (16 : Nat), (19 : Nat), (13 : Nat)), ((0 : Nat), (16 : Nat), (23 : Nat), (21 : Nat)), ((0 : Nat), (16 : Nat), (27 : Nat), (15 : Nat))]) ∈ BIG := big_t (List.mem_of_getElem? (i := 1856) (by decide +kernel)) (by decide +kernel)
theorem wd_1854 : (Jvm.Cond.methodLink "NoteDocumentLaw" (286 : Nat) ({ cls := "NoteDocumentLaw", name := "overlay", desc := "(LNoteDocument;IIIIJ[J)I" } : Jvm.MethodName)) ∈ BIG := big_t (List.mem_of_getElem? (i := 1854) (by decide +kernel)) (by decide +kernel)
theorem wd_1855 : (Jvm.Cond.static ({ cls := "NoteDocumentLaw", name := "overlay", desc := "(LNoteDocument;IIIIJ[J)I" } : Jvm.MethodName)) ∈ BIG := big_t (List.mem_of_getElem? (i := 1855) (by decide +kernel)) (by decide +kernel)
theorem dM_L_law_2889 : decode cM_L_law 2889 = .ok (.istore 5, 2) := dz_o54 (lT_90 9) (lT_90 10) (by decide +kernel)
theorem dM_L_law_2891 : decode cM_L_law 2891 = .ok (.aload_n 2, 1) := dz_o44 (lT_90 11)
theorem dM_L_law_2892 : decode cM_L_law 2892 = .ok (.aload_n 0, 1) := dz_o42 (lT_90 12)
theorem dM_L_law_2893 : decode cM_L_law 2893 = .ok (.iload 4, 2) := dz_o21 (lT_90 13) (lT_90 14) (by decide +kernel)
theorem dM_L_law_2895 : decode cM_L_law 2895 = .ok (.iconst 1, 1) := dz_o4 (lT_90 15)
theorem dM_L_law_2896 : decode cM_L_law 2896 = .ok (.iadd, 1) := dz_o96 (lT_90 16)
theorem dM_L_law_2897 : decode cM_L_law 2897 = .ok (.iaload, 1) := dz_o46 (lT_90 17)
theorem dM_L_law_2898 : decode cM_L_law 2898 = .ok (.aload_n 0, 1) := dz_o42 (lT_90 18)
theorem dM_L_law_2899 : decode cM_L_law 2899 = .ok (.iload 4, 2) := dz_o21 (lT_90 19) (lT_90 20) (by decide +kernel)
theorem dM_L_law_2901 : decode cM_L_law 2901 = .ok (.iconst 2, 1) := dz_o5 (lT_90 21)
theorem dM_L_law_2902 : decode cM_L_law 2902 = .ok (.iadd, 1) := dz_o96 (lT_90 22)
theorem dM_L_law_2903 : decode cM_L_law 2903 = .ok (.iaload, 1) := dz_o46 (lT_90 23)
theorem dM_L_law_2904 : decode cM_L_law 2904 = .ok (.aload_n 0, 1) := dz_o42 (lT_90 24)
theorem dM_L_law_2905 : decode cM_L_law 2905 = .ok (.iload 4, 2) := dz_o21 (lT_90 25) (lT_90 26) (by decide +kernel)
theorem dM_L_law_2907 : decode cM_L_law 2907 = .ok (.iconst 3, 1) := dz_o6 (lT_90 27)
theorem dM_L_law_2908 : decode cM_L_law 2908 = .ok (.iadd, 1) := dz_o96 (lT_90 28)
theorem dM_L_law_2909 : decode cM_L_law 2909 = .ok (.iaload, 1) := dz_o46 (lT_90 29)
theorem dM_L_law_2910 : decode cM_L_law 2910 = .ok (.aload_n 0, 1) := dz_o42 (lT_90 30)
theorem dM_L_law_2911 : decode cM_L_law 2911 = .ok (.iload 4, 2) := dz_o21 (lT_90 31) (lT_91 0) (by decide +kernel)
theorem dM_L_law_2913 : decode cM_L_law 2913 = .ok (.iconst 4, 1) := dz_o7 (lT_91 1)
theorem dM_L_law_2914 : decode cM_L_law 2914 = .ok (.iadd, 1) := dz_o96 (lT_91 2)
theorem dM_L_law_2915 : decode cM_L_law 2915 = .ok (.iaload, 1) := dz_o46 (lT_91 3)
theorem dM_L_law_2916 : decode cM_L_law 2916 = .ok (.aload_n 0, 1) := dz_o42 (lT_91 4)
theorem dM_L_law_2917 : decode cM_L_law 2917 = .ok (.iload 4, 2) := dz_o21 (lT_91 5) (lT_91 6) (by decide +kernel)
theorem dM_L_law_2919 : decode cM_L_law 2919 = .ok (.iconst 5, 1) := dz_o8 (lT_91 7)
theorem dM_L_law_2920 : decode cM_L_law 2920 = .ok (.iadd, 1) := dz_o96 (lT_91 8)
theorem dM_L_law_2921 : decode cM_L_law 2921 = .ok (.iaload, 1) := dz_o46 (lT_91 9)
theorem dM_L_law_2922 : decode cM_L_law 2922 = .ok (.i2l, 1) := dz_o133 (lT_91 10)
theorem dM_L_law_2923 : decode cM_L_law 2923 = .ok (.bipush 32, 2) := dz_o16 (lT_91 11) (lT_91 12) (by decide +kernel)
theorem dM_L_law_2925 : decode cM_L_law 2925 = .ok (.lshl, 1) := dz_o121 (lT_91 13)
theorem dM_L_law_2926 : decode cM_L_law 2926 = .ok (.aload_n 0, 1) := dz_o42 (lT_91 14)
theorem dM_L_law_2927 : decode cM_L_law 2927 = .ok (.iload 4, 2) := dz_o21 (lT_91 15) (lT_91 16) (by decide +kernel)
theorem dM_L_law_2929 : decode cM_L_law 2929 = .ok (.bipush 6, 2) := dz_o16 (lT_91 17) (lT_91 18) (by decide +kernel)
theorem dM_L_law_2931 : decode cM_L_law 2931 = .ok (.iadd, 1) := dz_o96 (lT_91 19)
theorem dM_L_law_2932 : decode cM_L_law 2932 = .ok (.iaload, 1) := dz_o46 (lT_91 20)
theorem dM_L_law_2933 : decode cM_L_law 2933 = .ok (.i2l, 1) := dz_o133 (lT_91 21)
theorem dM_L_law_2934 : decode cM_L_law 2934 = .ok (.ldc2_w 165, 3) := dz_o20 (lT_91 22) (lT_91 23) (lT_91 24) (by decide +kernel)
theorem dM_L_law_2937 : decode cM_L_law 2937 = .ok (.land, 1) := dz_o127 (lT_91 25)
theorem dM_L_law_2938 : decode cM_L_law 2938 = .ok (.lor, 1) := dz_o129 (lT_91 26)
theorem dM_L_law_2939 : decode cM_L_law 2939 = .ok (.invokevirtual 289, 3) := dz_o182 (lT_91 27) (lT_91 28) (lT_91 29) (by decide +kernel)
theorem wd_2822 : (Jvm.Cond.code ({ cls := "NoteDocumentModel", name := "overlay", desc := "(IIIIJ)I" } : Jvm.MethodName) prog_13_method_74_code (9 : Nat) (Option.some Jvm.ClassFile.FieldType.int)) ∈ BIG := big_t (List.mem_of_getElem? (i := 2822) (by decide +kernel)) (by decide +kernel)
theorem wd_2819 : (Jvm.Cond.methodLink "NoteDocumentLaw" (289 : Nat) ({ cls := "NoteDocumentModel", name := "overlay", desc := "(IIIIJ)I" } : Jvm.MethodName)) ∈ BIG := big_t (List.mem_of_getElem? (i := 2819) (by decide +kernel)) (by decide +kernel)
theorem wd_2820 : (Jvm.Cond.instanceMethod ({ cls := "NoteDocumentModel", name := "overlay", desc := "(IIIIJ)I" } : Jvm.MethodName)) ∈ BIG := big_t (List.mem_of_getElem? (i := 2820) (by decide +kernel)) (by decide +kernel)
theorem wd_2821 : (Jvm.Cond.selects "NoteDocumentModel" ({ cls := "NoteDocumentModel", name := "overlay", desc := "(IIIIJ)I" } : Jvm.MethodName) ({ cls := "NoteDocumentModel", name := "overlay", desc := "(IIIIJ)I" } : Jvm.MethodName)) ∈ BIG := big_t (List.mem_of_getElem? (i := 2821) (by decide +kernel)) (by decide +kernel)
theorem dM_L_law_2942 : decode cM_L_law 2942 = .ok (.istore 6, 2) := dz_o54 (lT_91 30) (lT_91 31) (by decide +kernel)
theorem dM_L_law_2944 : decode cM_L_law 2944 = .ok (.aload_n 2, 1) := dz_o44 (lT_92 0)
theorem dM_L_law_2945 : decode cM_L_law 2945 = .ok (.invokevirtual 158, 3) := dz_o182 (lT_92 1) (lT_92 2) (lT_92 3) (by decide +kernel)
theorem dM_L_law_2948 : decode cM_L_law 2948 = .ok (.iload 5, 2) := dz_o21 (lT_92 4) (lT_92 5) (by decide +kernel)
theorem dM_L_law_2950 : decode cM_L_law 2950 = .ok (.if_icmp .eq 5, 3) := dz_o159 (lT_92 6) (lT_92 7) (lT_92 8) (by decide +kernel)
theorem dM_L_law_2955 : decode cM_L_law 2955 = .ok (.iload 5, 2) := dz_o21 (lT_92 11) (lT_92 12) (by decide +kernel)
theorem dM_L_law_2957 : decode cM_L_law 2957 = .ok (.ifCond .ne 15, 3) := dz_o154 (lT_92 13) (lT_92 14) (lT_92 15) (by decide +kernel)
theorem dM_L_law_2972 : decode cM_L_law 2972 = .ok (.goto 438, 3) := dz_o167 (lT_92 28) (lT_92 29) (lT_92 30) (by decide +kernel)
theorem dM_L_law_2975 : decode cM_L_law 2975 = .ok (.aload_n 1, 1) := dz_o43 (lT_92 31)
theorem dM_L_law_2976 : decode cM_L_law 2976 = .ok (.aload_n 0, 1) := dz_o42 (lT_93 0)
theorem dM_L_law_2977 : decode cM_L_law 2977 = .ok (.iload 4, 2) := dz_o21 (lT_93 1) (lT_93 2) (by decide +kernel)
theorem dM_L_law_2979 : decode cM_L_law 2979 = .ok (.iconst 1, 1) := dz_o4 (lT_93 3)
theorem dM_L_law_2980 : decode cM_L_law 2980 = .ok (.iadd, 1) := dz_o96 (lT_93 4)
theorem dM_L_law_2981 : decode cM_L_law 2981 = .ok (.iaload, 1) := dz_o46 (lT_93 5)
theorem dM_L_law_2982 : decode cM_L_law 2982 = .ok (.aload_n 3, 1) := dz_o45 (lT_93 6)
theorem dM_L_law_2983 : decode cM_L_law 2983 = .ok (.invokestatic 290, 3) := dz_o184 (lT_93 7) (lT_93 8) (lT_93 9) (by decide +kernel)
theorem wd_1873 : (Jvm.Cond.codeWith ({ cls := "NoteDocumentLaw", name := "drop", desc := "(LNoteDocument;I[J)I" } : Jvm.MethodName) method_37_code (4 : Nat) (Option.some Jvm.ClassFile.FieldType.int) [((0 : Nat), (9 : Nat), (12 : Nat), (13 : Nat))]) ∈ BIG := big_t (List.mem_of_getElem? (i := 1873) (by decide +kernel)) (by decide +kernel)
theorem wd_1871 : (Jvm.Cond.methodLink "NoteDocumentLaw" (290 : Nat) ({ cls := "NoteDocumentLaw", name := "drop", desc := "(LNoteDocument;I[J)I" } : Jvm.MethodName)) ∈ BIG := big_t (List.mem_of_getElem? (i := 1871) (by decide +kernel)) (by decide +kernel)
theorem wd_1872 : (Jvm.Cond.static ({ cls := "NoteDocumentLaw", name := "drop", desc := "(LNoteDocument;I[J)I" } : Jvm.MethodName)) ∈ BIG := big_t (List.mem_of_getElem? (i := 1872) (by decide +kernel)) (by decide +kernel)
theorem dM_L_law_2986 : decode cM_L_law 2986 = .ok (.istore 5, 2) := dz_o54 (lT_93 10) (lT_93 11) (by decide +kernel)
theorem dM_L_law_2988 : decode cM_L_law 2988 = .ok (.aload_n 2, 1) := dz_o44 (lT_93 12)
theorem dM_L_law_2989 : decode cM_L_law 2989 = .ok (.aload_n 0, 1) := dz_o42 (lT_93 13)
theorem dM_L_law_2990 : decode cM_L_law 2990 = .ok (.iload 4, 2) := dz_o21 (lT_93 14) (lT_93 15) (by decide +kernel)
theorem dM_L_law_2992 : decode cM_L_law 2992 = .ok (.iconst 1, 1) := dz_o4 (lT_93 16)
theorem dM_L_law_2993 : decode cM_L_law 2993 = .ok (.iadd, 1) := dz_o96 (lT_93 17)
theorem dM_L_law_2994 : decode cM_L_law 2994 = .ok (.iaload, 1) := dz_o46 (lT_93 18)
theorem dM_L_law_2995 : decode cM_L_law 2995 = .ok (.invokevirtual 292, 3) := dz_o182 (lT_93 19) (lT_93 20) (lT_93 21) (by decide +kernel)
theorem wd_2830 : (Jvm.Cond.code ({ cls := "NoteDocumentModel", name := "drop", desc := "(I)I" } : Jvm.MethodName) prog_13_method_75_code (4 : Nat) (Option.some Jvm.ClassFile.FieldType.int)) ∈ BIG := big_t (List.mem_of_getElem? (i := 2830) (by decide +kernel)) (by decide +kernel)
theorem wd_2827 : (Jvm.Cond.methodLink "NoteDocumentLaw" (292 : Nat) ({ cls := "NoteDocumentModel", name := "drop", desc := "(I)I" } : Jvm.MethodName)) ∈ BIG := big_t (List.mem_of_getElem? (i := 2827) (by decide +kernel)) (by decide +kernel)
theorem wd_2828 : (Jvm.Cond.instanceMethod ({ cls := "NoteDocumentModel", name := "drop", desc := "(I)I" } : Jvm.MethodName)) ∈ BIG := big_t (List.mem_of_getElem? (i := 2828) (by decide +kernel)) (by decide +kernel)
theorem wd_2829 : (Jvm.Cond.selects "NoteDocumentModel" ({ cls := "NoteDocumentModel", name := "drop", desc := "(I)I" } : Jvm.MethodName) ({ cls := "NoteDocumentModel", name := "drop", desc := "(I)I" } : Jvm.MethodName)) ∈ BIG := big_t (List.mem_of_getElem? (i := 2829) (by decide +kernel)) (by decide +kernel)
theorem dM_L_law_2998 : decode cM_L_law 2998 = .ok (.istore 6, 2) := dz_o54 (lT_93 22) (lT_93 23) (by decide +kernel)
theorem dM_L_law_3000 : decode cM_L_law 3000 = .ok (.aload_n 2, 1) := dz_o44 (lT_93 24)
theorem dM_L_law_3001 : decode cM_L_law 3001 = .ok (.invokevirtual 158, 3) := dz_o182 (lT_93 25) (lT_93 26) (lT_93 27) (by decide +kernel)
theorem dM_L_law_3004 : decode cM_L_law 3004 = .ok (.iload 5, 2) := dz_o21 (lT_93 28) (lT_93 29) (by decide +kernel)
theorem dM_L_law_3006 : decode cM_L_law 3006 = .ok (.if_icmp .eq 5, 3) := dz_o159 (lT_93 30) (lT_93 31) (lT_94 0) (by decide +kernel)
theorem dM_L_law_3011 : decode cM_L_law 3011 = .ok (.iload 5, 2) := dz_o21 (lT_94 3) (lT_94 4) (by decide +kernel)
theorem dM_L_law_3013 : decode cM_L_law 3013 = .ok (.ifCond .ne 15, 3) := dz_o154 (lT_94 5) (lT_94 6) (lT_94 7) (by decide +kernel)
theorem dM_L_law_3016 : decode cM_L_law 3016 = .ok (.aload_n 3, 1) := dz_o45 (lT_94 8)
theorem dM_L_law_3017 : decode cM_L_law 3017 = .ok (.iconst 0, 1) := dz_o3 (lT_94 9)
theorem dM_L_law_3018 : decode cM_L_law 3018 = .ok (.laload, 1) := dz_o47 (lT_94 10)
theorem dM_L_law_3019 : decode cM_L_law 3019 = .ok (.iload 6, 2) := dz_o21 (lT_94 11) (lT_94 12) (by decide +kernel)
theorem dM_L_law_3021 : decode cM_L_law 3021 = .ok (.i2l, 1) := dz_o133 (lT_94 13)
theorem dM_L_law_3022 : decode cM_L_law 3022 = .ok (.lcmp, 1) := dz_o148 (lT_94 14)
theorem dM_L_law_3023 : decode cM_L_law 3023 = .ok (.ifCond .eq 5, 3) := dz_o153 (lT_94 15) (lT_94 16) (lT_94 17) (by decide +kernel)
theorem dM_L_law_3028 : decode cM_L_law 3028 = .ok (.goto 382, 3) := dz_o167 (lT_94 20) (lT_94 21) (lT_94 22) (by decide +kernel)
theorem dM_L_law_3031 : decode cM_L_law 3031 = .ok (.aload_n 1, 1) := dz_o43 (lT_94 23)
theorem dM_L_law_3032 : decode cM_L_law 3032 = .ok (.aload_n 0, 1) := dz_o42 (lT_94 24)
theorem dM_L_law_3033 : decode cM_L_law 3033 = .ok (.iload 4, 2) := dz_o21 (lT_94 25) (lT_94 26) (by decide +kernel)
theorem dM_L_law_3035 : decode cM_L_law 3035 = .ok (.iconst 1, 1) := dz_o4 (lT_94 27)
theorem dM_L_law_3036 : decode cM_L_law 3036 = .ok (.iadd, 1) := dz_o96 (lT_94 28)
theorem dM_L_law_3037 : decode cM_L_law 3037 = .ok (.iaload, 1) := dz_o46 (lT_94 29)
theorem dM_L_law_3038 : decode cM_L_law 3038 = .ok (.aload_n 0, 1) := dz_o42 (lT_94 30)
theorem dM_L_law_3039 : decode cM_L_law 3039 = .ok (.iload 4, 2) := dz_o21 (lT_94 31) (lT_95 0) (by decide +kernel)
theorem dM_L_law_3041 : decode cM_L_law 3041 = .ok (.iconst 2, 1) := dz_o5 (lT_95 1)
theorem dM_L_law_3042 : decode cM_L_law 3042 = .ok (.iadd, 1) := dz_o96 (lT_95 2)
theorem dM_L_law_3043 : decode cM_L_law 3043 = .ok (.iaload, 1) := dz_o46 (lT_95 3)
theorem dM_L_law_3044 : decode cM_L_law 3044 = .ok (.aload_n 0, 1) := dz_o42 (lT_95 4)
theorem dM_L_law_3045 : decode cM_L_law 3045 = .ok (.iload 4, 2) := dz_o21 (lT_95 5) (lT_95 6) (by decide +kernel)
theorem dM_L_law_3047 : decode cM_L_law 3047 = .ok (.iconst 3, 1) := dz_o6 (lT_95 7)
theorem dM_L_law_3048 : decode cM_L_law 3048 = .ok (.iadd, 1) := dz_o96 (lT_95 8)
theorem dM_L_law_3049 : decode cM_L_law 3049 = .ok (.iaload, 1) := dz_o46 (lT_95 9)
theorem dM_L_law_3050 : decode cM_L_law 3050 = .ok (.aload_n 0, 1) := dz_o42 (lT_95 10)
theorem dM_L_law_3051 : decode cM_L_law 3051 = .ok (.iload 4, 2) := dz_o21 (lT_95 11) (lT_95 12) (by decide +kernel)
theorem dM_L_law_3053 : decode cM_L_law 3053 = .ok (.iconst 4, 1) := dz_o7 (lT_95 13)
theorem dM_L_law_3054 : decode cM_L_law 3054 = .ok (.iadd, 1) := dz_o96 (lT_95 14)
theorem dM_L_law_3055 : decode cM_L_law 3055 = .ok (.iaload, 1) := dz_o46 (lT_95 15)
theorem dM_L_law_3056 : decode cM_L_law 3056 = .ok (.aload_n 3, 1) := dz_o45 (lT_95 16)
theorem dM_L_law_3057 : decode cM_L_law 3057 = .ok (.invokestatic 293, 3) := dz_o184 (lT_95 17) (lT_95 18) (lT_95 19) (by decide +kernel)
theorem wd_1881 : (Jvm.Cond.codeWith ({ cls := "NoteDocumentLaw", name := "kindIn", desc := "(LNoteDocument;IIII[J)I" } : Jvm.MethodName) method_38_code (7 : Nat) (Option.some Jvm.ClassFile.FieldType.int) [((0 : Nat), (14 : Nat), (17 : Nat), (13 : Nat)), ((0 : Nat), (14 : Nat), (21 : Nat), (21 : Nat))]) ∈ BIG := big_t (List.mem_of_getElem? (i := 1881) (by decide +kernel)) (by decide +kernel)
theorem wd_1879 : (Jvm.Cond.methodLink "NoteDocumentLaw" (293 : Nat) ({ cls := "NoteDocumentLaw", name := "kindIn", desc := "(LNoteDocument;IIII[J)I" } : Jvm.MethodName)) ∈ BIG := big_t (List.mem_of_getElem? (i := 1879) (by decide +kernel)) (by decide +kernel)
theorem wd_1880 : (Jvm.Cond.static ({ cls := "NoteDocumentLaw", name := "kindIn", desc := "(LNoteDocument;IIII[J)I" } : Jvm.MethodName)) ∈ BIG := big_t (List.mem_of_getElem? (i := 1880) (by decide +kernel)) (by decide +kernel)
theorem dM_L_law_3060 : decode cM_L_law 3060 = .ok (.istore 5, 2) := dz_o54 (lT_95 20) (lT_95 21) (by decide +kernel)
theorem dM_L_law_3062 : decode cM_L_law 3062 = .ok (.aload_n 2, 1) := dz_o44 (lT_95 22)
theorem dM_L_law_3063 : decode cM_L_law 3063 = .ok (.aload_n 0, 1) := dz_o42 (lT_95 23)
theorem dM_L_law_3064 : decode cM_L_law 3064 = .ok (.iload 4, 2) := dz_o21 (lT_95 24) (lT_95 25) (by decide +kernel)
theorem dM_L_law_3066 : decode cM_L_law 3066 = .ok (.iconst 1, 1) := dz_o4 (lT_95 26)
theorem dM_L_law_3067 : decode cM_L_law 3067 = .ok (.iadd, 1) := dz_o96 (lT_95 27)
theorem dM_L_law_3068 : decode cM_L_law 3068 = .ok (.iaload, 1) := dz_o46 (lT_95 28)
theorem dM_L_law_3069 : decode cM_L_law 3069 = .ok (.aload_n 0, 1) := dz_o42 (lT_95 29)
theorem dM_L_law_3070 : decode cM_L_law 3070 = .ok (.iload 4, 2) := dz_o21 (lT_95 30) (lT_95 31) (by decide +kernel)
theorem dM_L_law_3072 : decode cM_L_law 3072 = .ok (.iconst 2, 1) := dz_o5 (lT_96 0)
theorem dM_L_law_3073 : decode cM_L_law 3073 = .ok (.iadd, 1) := dz_o96 (lT_96 1)
theorem dM_L_law_3074 : decode cM_L_law 3074 = .ok (.iaload, 1) := dz_o46 (lT_96 2)
theorem dM_L_law_3075 : decode cM_L_law 3075 = .ok (.aload_n 0, 1) := dz_o42 (lT_96 3)
theorem dM_L_law_3076 : decode cM_L_law 3076 = .ok (.iload 4, 2) := dz_o21 (lT_96 4) (lT_96 5) (by decide +kernel)
theorem dM_L_law_3078 : decode cM_L_law 3078 = .ok (.iconst 3, 1) := dz_o6 (lT_96 6)
theorem dM_L_law_3079 : decode cM_L_law 3079 = .ok (.iadd, 1) := dz_o96 (lT_96 7)
theorem dM_L_law_3080 : decode cM_L_law 3080 = .ok (.iaload, 1) := dz_o46 (lT_96 8)
theorem dM_L_law_3081 : decode cM_L_law 3081 = .ok (.aload_n 0, 1) := dz_o42 (lT_96 9)
theorem dM_L_law_3082 : decode cM_L_law 3082 = .ok (.iload 4, 2) := dz_o21 (lT_96 10) (lT_96 11) (by decide +kernel)
theorem dM_L_law_3084 : decode cM_L_law 3084 = .ok (.iconst 4, 1) := dz_o7 (lT_96 12)
theorem dM_L_law_3085 : decode cM_L_law 3085 = .ok (.iadd, 1) := dz_o96 (lT_96 13)
theorem dM_L_law_3086 : decode cM_L_law 3086 = .ok (.iaload, 1) := dz_o46 (lT_96 14)
theorem dM_L_law_3087 : decode cM_L_law 3087 = .ok (.invokevirtual 295, 3) := dz_o182 (lT_96 15) (lT_96 16) (lT_96 17) (by decide +kernel)
theorem wd_2834 : (Jvm.Cond.code ({ cls := "NoteDocumentModel", name := "kindIn", desc := "(IIII)I" } : Jvm.MethodName) prog_13_method_76_code (5 : Nat) (Option.some Jvm.ClassFile.FieldType.int)) ∈ BIG := big_t (List.mem_of_getElem? (i := 2834) (by decide +kernel)) (by decide +kernel)
theorem wd_2831 : (Jvm.Cond.methodLink "NoteDocumentLaw" (295 : Nat) ({ cls := "NoteDocumentModel", name := "kindIn", desc := "(IIII)I" } : Jvm.MethodName)) ∈ BIG := big_t (List.mem_of_getElem? (i := 2831) (by decide +kernel)) (by decide +kernel)
theorem wd_2832 : (Jvm.Cond.instanceMethod ({ cls := "NoteDocumentModel", name := "kindIn", desc := "(IIII)I" } : Jvm.MethodName)) ∈ BIG := big_t (List.mem_of_getElem? (i := 2832) (by decide +kernel)) (by decide +kernel)
theorem wd_2833 : (Jvm.Cond.selects "NoteDocumentModel" ({ cls := "NoteDocumentModel", name := "kindIn", desc := "(IIII)I" } : Jvm.MethodName) ({ cls := "NoteDocumentModel", name := "kindIn", desc := "(IIII)I" } : Jvm.MethodName)) ∈ BIG := big_t (List.mem_of_getElem? (i := 2833) (by decide +kernel)) (by decide +kernel)
theorem dM_L_law_3090 : decode cM_L_law 3090 = .ok (.istore 6, 2) := dz_o54 (lT_96 18) (lT_96 19) (by decide +kernel)
theorem dM_L_law_3092 : decode cM_L_law 3092 = .ok (.aload_n 2, 1) := dz_o44 (lT_96 20)
theorem dM_L_law_3093 : decode cM_L_law 3093 = .ok (.invokevirtual 158, 3) := dz_o182 (lT_96 21) (lT_96 22) (lT_96 23) (by decide +kernel)
theorem dM_L_law_3096 : decode cM_L_law 3096 = .ok (.iload 5, 2) := dz_o21 (lT_96 24) (lT_96 25) (by decide +kernel)
theorem dM_L_law_3098 : decode cM_L_law 3098 = .ok (.if_icmp .eq 5, 3) := dz_o159 (lT_96 26) (lT_96 27) (lT_96 28) (by decide +kernel)
theorem dM_L_law_3103 : decode cM_L_law 3103 = .ok (.iload 5, 2) := dz_o21 (lT_96 31) (lT_97 0) (by decide +kernel)
theorem dM_L_law_3105 : decode cM_L_law 3105 = .ok (.ifCond .ne 15, 3) := dz_o154 (lT_97 1) (lT_97 2) (lT_97 3) (by decide +kernel)
theorem dM_L_law_3120 : decode cM_L_law 3120 = .ok (.goto 290, 3) := dz_o167 (lT_97 16) (lT_97 17) (lT_97 18) (by decide +kernel)
theorem dM_L_law_3123 : decode cM_L_law 3123 = .ok (.aload_n 1, 1) := dz_o43 (lT_97 19)
theorem dM_L_law_3124 : decode cM_L_law 3124 = .ok (.aload_n 0, 1) := dz_o42 (lT_97 20)
theorem dM_L_law_3125 : decode cM_L_law 3125 = .ok (.iload 4, 2) := dz_o21 (lT_97 21) (lT_97 22) (by decide +kernel)
theorem dM_L_law_3127 : decode cM_L_law 3127 = .ok (.iconst 1, 1) := dz_o4 (lT_97 23)
theorem dM_L_law_3128 : decode cM_L_law 3128 = .ok (.iadd, 1) := dz_o96 (lT_97 24)
theorem dM_L_law_3129 : decode cM_L_law 3129 = .ok (.iaload, 1) := dz_o46 (lT_97 25)
theorem dM_L_law_3130 : decode cM_L_law 3130 = .ok (.aload_n 0, 1) := dz_o42 (lT_97 26)
theorem dM_L_law_3131 : decode cM_L_law 3131 = .ok (.iload 4, 2) := dz_o21 (lT_97 27) (lT_97 28) (by decide +kernel)
theorem dM_L_law_3133 : decode cM_L_law 3133 = .ok (.iconst 2, 1) := dz_o5 (lT_97 29)
theorem dM_L_law_3134 : decode cM_L_law 3134 = .ok (.iadd, 1) := dz_o96 (lT_97 30)
theorem dM_L_law_3135 : decode cM_L_law 3135 = .ok (.iaload, 1) := dz_o46 (lT_97 31)
theorem dM_L_law_3136 : decode cM_L_law 3136 = .ok (.aload_n 0, 1) := dz_o42 (lT_98 0)
theorem dM_L_law_3137 : decode cM_L_law 3137 = .ok (.iload 4, 2) := dz_o21 (lT_98 1) (lT_98 2) (by decide +kernel)
theorem dM_L_law_3139 : decode cM_L_law 3139 = .ok (.iconst 3, 1) := dz_o6 (lT_98 3)
theorem dM_L_law_3140 : decode cM_L_law 3140 = .ok (.iadd, 1) := dz_o96 (lT_98 4)
theorem dM_L_law_3141 : decode cM_L_law 3141 = .ok (.iaload, 1) := dz_o46 (lT_98 5)
theorem dM_L_law_3142 : decode cM_L_law 3142 = .ok (.aload_n 0, 1) := dz_o42 (lT_98 6)
theorem dM_L_law_3143 : decode cM_L_law 3143 = .ok (.iload 4, 2) := dz_o21 (lT_98 7) (lT_98 8) (by decide +kernel)
theorem dM_L_law_3145 : decode cM_L_law 3145 = .ok (.iconst 4, 1) := dz_o7 (lT_98 9)
theorem dM_L_law_3146 : decode cM_L_law 3146 = .ok (.iadd, 1) := dz_o96 (lT_98 10)
theorem dM_L_law_3147 : decode cM_L_law 3147 = .ok (.iaload, 1) := dz_o46 (lT_98 11)
theorem dM_L_law_3148 : decode cM_L_law 3148 = .ok (.aload_n 3, 1) := dz_o45 (lT_98 12)
theorem dM_L_law_3149 : decode cM_L_law 3149 = .ok (.invokestatic 296, 3) := dz_o184 (lT_98 13) (lT_98 14) (lT_98 15) (by decide +kernel)
theorem wd_1888 : (Jvm.Cond.codeWith ({ cls := "NoteDocumentLaw", name := "valueIn", desc := "(LNoteDocument;IIII[J)I" } : Jvm.MethodName) method_39_code (7 : Nat) (Option.some Jvm.ClassFile.FieldType.int) [((0 : Nat), (13 : Nat), (16 : Nat), (13 : Nat)), ((0 : Nat), (13 : Nat), (20 : Nat), (21 : Nat))]) ∈ BIG := big_t (List.mem_of_getElem? (i := 1888) (by decide +kernel)) (by decide +kernel)
theorem wd_1886 : (Jvm.Cond.methodLink "NoteDocumentLaw" (296 : Nat) ({ cls := "NoteDocumentLaw", name := "valueIn", desc := "(LNoteDocument;IIII[J)I" } : Jvm.MethodName)) ∈ BIG := big_t (List.mem_of_getElem? (i := 1886) (by decide +kernel)) (by decide +kernel)
theorem wd_1887 : (Jvm.Cond.static ({ cls := "NoteDocumentLaw", name := "valueIn", desc := "(LNoteDocument;IIII[J)I" } : Jvm.MethodName)) ∈ BIG := big_t (List.mem_of_getElem? (i := 1887) (by decide +kernel)) (by decide +kernel)
theorem dM_L_law_3152 : decode cM_L_law 3152 = .ok (.istore 5, 2) := dz_o54 (lT_98 16) (lT_98 17) (by decide +kernel)
theorem dM_L_law_3154 : decode cM_L_law 3154 = .ok (.aload_n 2, 1) := dz_o44 (lT_98 18)
theorem dM_L_law_3155 : decode cM_L_law 3155 = .ok (.aload_n 0, 1) := dz_o42 (lT_98 19)
theorem dM_L_law_3156 : decode cM_L_law 3156 = .ok (.iload 4, 2) := dz_o21 (lT_98 20) (lT_98 21) (by decide +kernel)
theorem dM_L_law_3158 : decode cM_L_law 3158 = .ok (.iconst 1, 1) := dz_o4 (lT_98 22)
theorem dM_L_law_3159 : decode cM_L_law 3159 = .ok (.iadd, 1) := dz_o96 (lT_98 23)
theorem dM_L_law_3160 : decode cM_L_law 3160 = .ok (.iaload, 1) := dz_o46 (lT_98 24)
theorem dM_L_law_3161 : decode cM_L_law 3161 = .ok (.aload_n 0, 1) := dz_o42 (lT_98 25)
theorem dM_L_law_3162 : decode cM_L_law 3162 = .ok (.iload 4, 2) := dz_o21 (lT_98 26) (lT_98 27) (by decide +kernel)
theorem dM_L_law_3164 : decode cM_L_law 3164 = .ok (.iconst 2, 1) := dz_o5 (lT_98 28)
theorem dM_L_law_3165 : decode cM_L_law 3165 = .ok (.iadd, 1) := dz_o96 (lT_98 29)
theorem dM_L_law_3166 : decode cM_L_law 3166 = .ok (.iaload, 1) := dz_o46 (lT_98 30)
theorem dM_L_law_3167 : decode cM_L_law 3167 = .ok (.aload_n 0, 1) := dz_o42 (lT_98 31)
theorem dM_L_law_3168 : decode cM_L_law 3168 = .ok (.iload 4, 2) := dz_o21 (lT_99 0) (lT_99 1) (by decide +kernel)
theorem dM_L_law_3170 : decode cM_L_law 3170 = .ok (.iconst 3, 1) := dz_o6 (lT_99 2)
theorem dM_L_law_3171 : decode cM_L_law 3171 = .ok (.iadd, 1) := dz_o96 (lT_99 3)
theorem dM_L_law_3172 : decode cM_L_law 3172 = .ok (.iaload, 1) := dz_o46 (lT_99 4)
theorem dM_L_law_3173 : decode cM_L_law 3173 = .ok (.aload_n 0, 1) := dz_o42 (lT_99 5)
theorem dM_L_law_3174 : decode cM_L_law 3174 = .ok (.iload 4, 2) := dz_o21 (lT_99 6) (lT_99 7) (by decide +kernel)
theorem dM_L_law_3176 : decode cM_L_law 3176 = .ok (.iconst 4, 1) := dz_o7 (lT_99 8)
theorem dM_L_law_3177 : decode cM_L_law 3177 = .ok (.iadd, 1) := dz_o96 (lT_99 9)
theorem dM_L_law_3178 : decode cM_L_law 3178 = .ok (.iaload, 1) := dz_o46 (lT_99 10)
theorem dM_L_law_3179 : decode cM_L_law 3179 = .ok (.invokevirtual 298, 3) := dz_o182 (lT_99 11) (lT_99 12) (lT_99 13) (by decide +kernel)
theorem wd_2838 : (Jvm.Cond.code ({ cls := "NoteDocumentModel", name := "valueIn", desc := "(IIII)J" } : Jvm.MethodName) prog_13_method_77_code (5 : Nat) (Option.some Jvm.ClassFile.FieldType.long)) ∈ BIG := big_t (List.mem_of_getElem? (i := 2838) (by decide +kernel)) (by decide +kernel)
theorem wd_2835 : (Jvm.Cond.methodLink "NoteDocumentLaw" (298 : Nat) ({ cls := "NoteDocumentModel", name := "valueIn", desc := "(IIII)J" } : Jvm.MethodName)) ∈ BIG := big_t (List.mem_of_getElem? (i := 2835) (by decide +kernel)) (by decide +kernel)
theorem wd_2836 : (Jvm.Cond.instanceMethod ({ cls := "NoteDocumentModel", name := "valueIn", desc := "(IIII)J" } : Jvm.MethodName)) ∈ BIG := big_t (List.mem_of_getElem? (i := 2836) (by decide +kernel)) (by decide +kernel)
theorem wd_2837 : (Jvm.Cond.selects "NoteDocumentModel" ({ cls := "NoteDocumentModel", name := "valueIn", desc := "(IIII)J" } : Jvm.MethodName) ({ cls := "NoteDocumentModel", name := "valueIn", desc := "(IIII)J" } : Jvm.MethodName)) ∈ BIG := big_t (List.mem_of_getElem? (i := 2837) (by decide +kernel)) (by decide +kernel)
theorem dM_L_law_3182 : decode cM_L_law 3182 = .ok (.lstore 6, 2) := dz_o55 (lT_99 14) (lT_99 15) (by decide +kernel)
theorem dM_L_law_3184 : decode cM_L_law 3184 = .ok (.aload_n 2, 1) := dz_o44 (lT_99 16)
theorem dM_L_law_3185 : decode cM_L_law 3185 = .ok (.invokevirtual 158, 3) := dz_o182 (lT_99 17) (lT_99 18) (lT_99 19) (by decide +kernel)
theorem dM_L_law_3188 : decode cM_L_law 3188 = .ok (.iload 5, 2) := dz_o21 (lT_99 20) (lT_99 21) (by decide +kernel)
theorem dM_L_law_3190 : decode cM_L_law 3190 = .ok (.if_icmp .eq 5, 3) := dz_o159 (lT_99 22) (lT_99 23) (lT_99 24) (by decide +kernel)
theorem dM_L_law_3195 : decode cM_L_law 3195 = .ok (.iload 5, 2) := dz_o21 (lT_99 27) (lT_99 28) (by decide +kernel)
theorem dM_L_law_3197 : decode cM_L_law 3197 = .ok (.ifCond .ne 14, 3) := dz_o154 (lT_99 29) (lT_99 30) (lT_99 31) (by decide +kernel)
theorem dM_L_law_3211 : decode cM_L_law 3211 = .ok (.goto 199, 3) := dz_o167 (lT_100 11) (lT_100 12) (lT_100 13) (by decide +kernel)
theorem dM_L_law_3214 : decode cM_L_law 3214 = .ok (.aload_n 1, 1) := dz_o43 (lT_100 14)
theorem dM_L_law_3215 : decode cM_L_law 3215 = .ok (.aload_n 0, 1) := dz_o42 (lT_100 15)
theorem dM_L_law_3216 : decode cM_L_law 3216 = .ok (.iload 4, 2) := dz_o21 (lT_100 16) (lT_100 17) (by decide +kernel)
theorem dM_L_law_3218 : decode cM_L_law 3218 = .ok (.iconst 1, 1) := dz_o4 (lT_100 18)
theorem dM_L_law_3219 : decode cM_L_law 3219 = .ok (.iadd, 1) := dz_o96 (lT_100 19)
theorem dM_L_law_3220 : decode cM_L_law 3220 = .ok (.iaload, 1) := dz_o46 (lT_100 20)
theorem dM_L_law_3221 : decode cM_L_law 3221 = .ok (.aload_n 0, 1) := dz_o42 (lT_100 21)
theorem dM_L_law_3222 : decode cM_L_law 3222 = .ok (.iload 4, 2) := dz_o21 (lT_100 22) (lT_100 23) (by decide +kernel)
theorem dM_L_law_3224 : decode cM_L_law 3224 = .ok (.iconst 2, 1) := dz_o5 (lT_100 24)
theorem dM_L_law_3225 : decode cM_L_law 3225 = .ok (.iadd, 1) := dz_o96 (lT_100 25)
theorem dM_L_law_3226 : decode cM_L_law 3226 = .ok (.iaload, 1) := dz_o46 (lT_100 26)
theorem dM_L_law_3227 : decode cM_L_law 3227 = .ok (.aload_n 0, 1) := dz_o42 (lT_100 27)
theorem dM_L_law_3228 : decode cM_L_law 3228 = .ok (.iload 4, 2) := dz_o21 (lT_100 28) (lT_100 29) (by decide +kernel)
theorem dM_L_law_3230 : decode cM_L_law 3230 = .ok (.iconst 3, 1) := dz_o6 (lT_100 30)
theorem dM_L_law_3231 : decode cM_L_law 3231 = .ok (.iadd, 1) := dz_o96 (lT_100 31)
theorem dM_L_law_3232 : decode cM_L_law 3232 = .ok (.iaload, 1) := dz_o46 (lT_101 0)
theorem dM_L_law_3233 : decode cM_L_law 3233 = .ok (.aload_n 0, 1) := dz_o42 (lT_101 1)
theorem dM_L_law_3234 : decode cM_L_law 3234 = .ok (.iload 4, 2) := dz_o21 (lT_101 2) (lT_101 3) (by decide +kernel)
theorem dM_L_law_3236 : decode cM_L_law 3236 = .ok (.iconst 4, 1) := dz_o7 (lT_101 4)
theorem dM_L_law_3237 : decode cM_L_law 3237 = .ok (.iadd, 1) := dz_o96 (lT_101 5)
theorem dM_L_law_3238 : decode cM_L_law 3238 = .ok (.iaload, 1) := dz_o46 (lT_101 6)
theorem dM_L_law_3239 : decode cM_L_law 3239 = .ok (.i2l, 1) := dz_o133 (lT_101 7)
theorem dM_L_law_3240 : decode cM_L_law 3240 = .ok (.bipush 32, 2) := dz_o16 (lT_101 8) (lT_101 9) (by decide +kernel)
theorem dM_L_law_3242 : decode cM_L_law 3242 = .ok (.lshl, 1) := dz_o121 (lT_101 10)
theorem dM_L_law_3243 : decode cM_L_law 3243 = .ok (.aload_n 0, 1) := dz_o42 (lT_101 11)
theorem dM_L_law_3244 : decode cM_L_law 3244 = .ok (.iload 4, 2) := dz_o21 (lT_101 12) (lT_101 13) (by decide +kernel)
theorem dM_L_law_3246 : decode cM_L_law 3246 = .ok (.iconst 5, 1) := dz_o8 (lT_101 14)
theorem dM_L_law_3247 : decode cM_L_law 3247 = .ok (.iadd, 1) := dz_o96 (lT_101 15)
theorem dM_L_law_3248 : decode cM_L_law 3248 = .ok (.iaload, 1) := dz_o46 (lT_101 16)
theorem dM_L_law_3249 : decode cM_L_law 3249 = .ok (.i2l, 1) := dz_o133 (lT_101 17)
theorem dM_L_law_3250 : decode cM_L_law 3250 = .ok (.ldc2_w 165, 3) := dz_o20 (lT_101 18) (lT_101 19) (lT_101 20) (by decide +kernel)
theorem dM_L_law_3253 : decode cM_L_law 3253 = .ok (.land, 1) := dz_o127 (lT_101 21)
theorem dM_L_law_3254 : decode cM_L_law 3254 = .ok (.lor, 1) := dz_o129 (lT_101 22)
theorem dM_L_law_3255 : decode cM_L_law 3255 = .ok (.aload_n 0, 1) := dz_o42 (lT_101 23)
theorem dM_L_law_3256 : decode cM_L_law 3256 = .ok (.iload 4, 2) := dz_o21 (lT_101 24) (lT_101 25) (by decide +kernel)
theorem dM_L_law_3258 : decode cM_L_law 3258 = .ok (.bipush 6, 2) := dz_o16 (lT_101 26) (lT_101 27) (by decide +kernel)
theorem dM_L_law_3260 : decode cM_L_law 3260 = .ok (.iadd, 1) := dz_o96 (lT_101 28)
theorem dM_L_law_3261 : decode cM_L_law 3261 = .ok (.iaload, 1) := dz_o46 (lT_101 29)
theorem dM_L_law_3262 : decode cM_L_law 3262 = .ok (.aload_n 0, 1) := dz_o42 (lT_101 30)
theorem dM_L_law_3263 : decode cM_L_law 3263 = .ok (.iload 4, 2) := dz_o21 (lT_101 31) (lT_102 0) (by decide +kernel)
theorem dM_L_law_3265 : decode cM_L_law 3265 = .ok (.bipush 7, 2) := dz_o16 (lT_102 1) (lT_102 2) (by decide +kernel)
theorem dM_L_law_3267 : decode cM_L_law 3267 = .ok (.iadd, 1) := dz_o96 (lT_102 3)
theorem dM_L_law_3268 : decode cM_L_law 3268 = .ok (.iaload, 1) := dz_o46 (lT_102 4)
theorem dM_L_law_3269 : decode cM_L_law 3269 = .ok (.aload_n 3, 1) := dz_o45 (lT_102 5)
theorem dM_L_law_3270 : decode cM_L_law 3270 = .ok (.invokestatic 299, 3) := dz_o184 (lT_102 6) (lT_102 7) (lT_102 8) (by decide +kernel)
theorem wd_1895 : (Jvm.Cond.codeWith ({ cls := "NoteDocumentLaw", name := "seek", desc := "(LNoteDocument;IIIJII[J)I" } : Jvm.MethodName) method_40_code (10 : Nat) (Option.some Jvm.ClassFile.FieldType.int) [((0 : Nat), (18 : Nat), (21 : Nat), (21 : Nat)), ((0 : Nat), (18 : Nat), (25 : Nat), (13 : Nat)), ((0 : Nat), (18 : Nat), (29 : Nat), (15 : Nat))]) ∈ BIG := big_t (List.mem_of_getElem? (i := 1895) (by decide +kernel)) (by decide +kernel)
theorem wd_1893 : (Jvm.Cond.methodLink "NoteDocumentLaw" (299 : Nat) ({ cls := "NoteDocumentLaw", name := "seek", desc := "(LNoteDocument;IIIJII[J)I" } : Jvm.MethodName)) ∈ BIG := big_t (List.mem_of_getElem? (i := 1893) (by decide +kernel)) (by decide +kernel)
theorem wd_1894 : (Jvm.Cond.static ({ cls := "NoteDocumentLaw", name := "seek", desc := "(LNoteDocument;IIIJII[J)I" } : Jvm.MethodName)) ∈ BIG := big_t (List.mem_of_getElem? (i := 1894) (by decide +kernel)) (by decide +kernel)
theorem dM_L_law_3273 : decode cM_L_law 3273 = .ok (.istore 5, 2) := dz_o54 (lT_102 9) (lT_102 10) (by decide +kernel)
theorem dM_L_law_3275 : decode cM_L_law 3275 = .ok (.aload_n 2, 1) := dz_o44 (lT_102 11)
theorem dM_L_law_3276 : decode cM_L_law 3276 = .ok (.aload_n 0, 1) := dz_o42 (lT_102 12)
theorem dM_L_law_3277 : decode cM_L_law 3277 = .ok (.iload 4, 2) := dz_o21 (lT_102 13) (lT_102 14) (by decide +kernel)
theorem dM_L_law_3279 : decode cM_L_law 3279 = .ok (.iconst 1, 1) := dz_o4 (lT_102 15)
theorem dM_L_law_3280 : decode cM_L_law 3280 = .ok (.iadd, 1) := dz_o96 (lT_102 16)
theorem dM_L_law_3281 : decode cM_L_law 3281 = .ok (.iaload, 1) := dz_o46 (lT_102 17)
theorem dM_L_law_3282 : decode cM_L_law 3282 = .ok (.aload_n 0, 1) := dz_o42 (lT_102 18)
theorem dM_L_law_3283 : decode cM_L_law 3283 = .ok (.iload 4, 2) := dz_o21 (lT_102 19) (lT_102 20) (by decide +kernel)
theorem dM_L_law_3285 : decode cM_L_law 3285 = .ok (.iconst 2, 1) := dz_o5 (lT_102 21)
theorem dM_L_law_3286 : decode cM_L_law 3286 = .ok (.iadd, 1) := dz_o96 (lT_102 22)
theorem dM_L_law_3287 : decode cM_L_law 3287 = .ok (.iaload, 1) := dz_o46 (lT_102 23)
theorem dM_L_law_3288 : decode cM_L_law 3288 = .ok (.aload_n 0, 1) := dz_o42 (lT_102 24)
theorem dM_L_law_3289 : decode cM_L_law 3289 = .ok (.iload 4, 2) := dz_o21 (lT_102 25) (lT_102 26) (by decide +kernel)
theorem dM_L_law_3291 : decode cM_L_law 3291 = .ok (.iconst 3, 1) := dz_o6 (lT_102 27)
theorem dM_L_law_3292 : decode cM_L_law 3292 = .ok (.iadd, 1) := dz_o96 (lT_102 28)
theorem dM_L_law_3293 : decode cM_L_law 3293 = .ok (.iaload, 1) := dz_o46 (lT_102 29)
theorem dM_L_law_3294 : decode cM_L_law 3294 = .ok (.aload_n 0, 1) := dz_o42 (lT_102 30)
theorem dM_L_law_3295 : decode cM_L_law 3295 = .ok (.iload 4, 2) := dz_o21 (lT_102 31) (lT_103 0) (by decide +kernel)
theorem dM_L_law_3297 : decode cM_L_law 3297 = .ok (.iconst 4, 1) := dz_o7 (lT_103 1)
theorem dM_L_law_3298 : decode cM_L_law 3298 = .ok (.iadd, 1) := dz_o96 (lT_103 2)
theorem dM_L_law_3299 : decode cM_L_law 3299 = .ok (.iaload, 1) := dz_o46 (lT_103 3)
theorem dM_L_law_3300 : decode cM_L_law 3300 = .ok (.i2l, 1) := dz_o133 (lT_103 4)
theorem dM_L_law_3301 : decode cM_L_law 3301 = .ok (.bipush 32, 2) := dz_o16 (lT_103 5) (lT_103 6) (by decide +kernel)
theorem dM_L_law_3303 : decode cM_L_law 3303 = .ok (.lshl, 1) := dz_o121 (lT_103 7)
theorem dM_L_law_3304 : decode cM_L_law 3304 = .ok (.aload_n 0, 1) := dz_o42 (lT_103 8)
theorem dM_L_law_3305 : decode cM_L_law 3305 = .ok (.iload 4, 2) := dz_o21 (lT_103 9) (lT_103 10) (by decide +kernel)
theorem dM_L_law_3307 : decode cM_L_law 3307 = .ok (.iconst 5, 1) := dz_o8 (lT_103 11)
theorem dM_L_law_3308 : decode cM_L_law 3308 = .ok (.iadd, 1) := dz_o96 (lT_103 12)
theorem dM_L_law_3309 : decode cM_L_law 3309 = .ok (.iaload, 1) := dz_o46 (lT_103 13)
theorem dM_L_law_3310 : decode cM_L_law 3310 = .ok (.i2l, 1) := dz_o133 (lT_103 14)
theorem dM_L_law_3311 : decode cM_L_law 3311 = .ok (.ldc2_w 165, 3) := dz_o20 (lT_103 15) (lT_103 16) (lT_103 17) (by decide +kernel)
theorem dM_L_law_3314 : decode cM_L_law 3314 = .ok (.land, 1) := dz_o127 (lT_103 18)
theorem dM_L_law_3315 : decode cM_L_law 3315 = .ok (.lor, 1) := dz_o129 (lT_103 19)
theorem dM_L_law_3316 : decode cM_L_law 3316 = .ok (.aload_n 0, 1) := dz_o42 (lT_103 20)
theorem dM_L_law_3317 : decode cM_L_law 3317 = .ok (.iload 4, 2) := dz_o21 (lT_103 21) (lT_103 22) (by decide +kernel)
theorem dM_L_law_3319 : decode cM_L_law 3319 = .ok (.bipush 6, 2) := dz_o16 (lT_103 23) (lT_103 24) (by decide +kernel)
theorem dM_L_law_3321 : decode cM_L_law 3321 = .ok (.iadd, 1) := dz_o96 (lT_103 25)
theorem dM_L_law_3322 : decode cM_L_law 3322 = .ok (.iaload, 1) := dz_o46 (lT_103 26)
theorem dM_L_law_3323 : decode cM_L_law 3323 = .ok (.aload_n 0, 1) := dz_o42 (lT_103 27)
theorem dM_L_law_3324 : decode cM_L_law 3324 = .ok (.iload 4, 2) := dz_o21 (lT_103 28) (lT_103 29) (by decide +kernel)
theorem dM_L_law_3326 : decode cM_L_law 3326 = .ok (.bipush 7, 2) := dz_o16 (lT_103 30) (lT_103 31) (by decide +kernel)
theorem dM_L_law_3328 : decode cM_L_law 3328 = .ok (.iadd, 1) := dz_o96 (lT_104 0)
theorem dM_L_law_3329 : decode cM_L_law 3329 = .ok (.iaload, 1) := dz_o46 (lT_104 1)
theorem dM_L_law_3330 : decode cM_L_law 3330 = .ok (.invokevirtual 302, 3) := dz_o182 (lT_104 2) (lT_104 3) (lT_104 4) (by decide +kernel)
theorem wd_2842 : (Jvm.Cond.code ({ cls := "NoteDocumentModel", name := "seek", desc := "(IIIJII)I" } : Jvm.MethodName) prog_13_method_78_code (12 : Nat) (Option.some Jvm.ClassFile.FieldType.int)) ∈ BIG := big_t (List.mem_of_getElem? (i := 2842) (by decide +kernel)) (by decide +kernel)
theorem wd_2839 : (Jvm.Cond.methodLink "NoteDocumentLaw" (302 : Nat) ({ cls := "NoteDocumentModel", name := "seek", desc := "(IIIJII)I" } : Jvm.MethodName)) ∈ BIG := big_t (List.mem_of_getElem? (i := 2839) (by decide +kernel)) (by decide +kernel)
theorem wd_2840 : (Jvm.Cond.instanceMethod ({ cls := "NoteDocumentModel", name := "seek", desc := "(IIIJII)I" } : Jvm.MethodName)) ∈ BIG := big_t (List.mem_of_getElem? (i := 2840) (by decide +kernel)) (by decide +kernel)
theorem wd_2841 : (Jvm.Cond.selects "NoteDocumentModel" ({ cls := "NoteDocumentModel", name := "seek", desc := "(IIIJII)I" } : Jvm.MethodName) ({ cls := "NoteDocumentModel", name := "seek", desc := "(IIIJII)I" } : Jvm.MethodName)) ∈ BIG := big_t (List.mem_of_getElem? (i := 2841) (by decide +kernel)) (by decide +kernel)
theorem dM_L_law_3333 : decode cM_L_law 3333 = .ok (.istore 6, 2) := dz_o54 (lT_104 5) (lT_104 6) (by decide +kernel)
theorem dM_L_law_3335 : decode cM_L_law 3335 = .ok (.aload_n 2, 1) := dz_o44 (lT_104 7)
theorem dM_L_law_3336 : decode cM_L_law 3336 = .ok (.invokevirtual 158, 3) := dz_o182 (lT_104 8) (lT_104 9) (lT_104 10) (by decide +kernel)
theorem dM_L_law_3339 : decode cM_L_law 3339 = .ok (.iload 5, 2) := dz_o21 (lT_104 11) (lT_104 12) (by decide +kernel)
theorem dM_L_law_3341 : decode cM_L_law 3341 = .ok (.if_icmp .eq 5, 3) := dz_o159 (lT_104 13) (lT_104 14) (lT_104 15) (by decide +kernel)
theorem dM_L_law_3346 : decode cM_L_law 3346 = .ok (.iload 5, 2) := dz_o21 (lT_104 18) (lT_104 19) (by decide +kernel)
theorem dM_L_law_3348 : decode cM_L_law 3348 = .ok (.ifCond .ne 15, 3) := dz_o154 (lT_104 20) (lT_104 21) (lT_104 22) (by decide +kernel)
theorem dM_L_law_3363 : decode cM_L_law 3363 = .ok (.goto 47, 3) := dz_o167 (lT_105 3) (lT_105 4) (lT_105 5) (by decide +kernel)
theorem dM_L_law_3366 : decode cM_L_law 3366 = .ok (.aload_n 1, 1) := dz_o43 (lT_105 6)
theorem dM_L_law_3367 : decode cM_L_law 3367 = .ok (.aload_n 3, 1) := dz_o45 (lT_105 7)
theorem dM_L_law_3368 : decode cM_L_law 3368 = .ok (.invokestatic 303, 3) := dz_o184 (lT_105 8) (lT_105 9) (lT_105 10) (by decide +kernel)
theorem wd_1904 : (Jvm.Cond.codeWith ({ cls := "NoteDocumentLaw", name := "undo", desc := "(LNoteDocument;[J)I" } : Jvm.MethodName) method_41_code (3 : Nat) (Option.some Jvm.ClassFile.FieldType.int) [((0 : Nat), (8 : Nat), (11 : Nat), (15 : Nat))]) ∈ BIG := big_t (List.mem_of_getElem? (i := 1904) (by decide +kernel)) (by decide +kernel)
theorem wd_1902 : (Jvm.Cond.methodLink "NoteDocumentLaw" (303 : Nat) ({ cls := "NoteDocumentLaw", name := "undo", desc := "(LNoteDocument;[J)I" } : Jvm.MethodName)) ∈ BIG := big_t (List.mem_of_getElem? (i := 1902) (by decide +kernel)) (by decide +kernel)
theorem wd_1903 : (Jvm.Cond.static ({ cls := "NoteDocumentLaw", name := "undo", desc := "(LNoteDocument;[J)I" } : Jvm.MethodName)) ∈ BIG := big_t (List.mem_of_getElem? (i := 1903) (by decide +kernel)) (by decide +kernel)
theorem dM_L_law_3371 : decode cM_L_law 3371 = .ok (.istore 5, 2) := dz_o54 (lT_105 11) (lT_105 12) (by decide +kernel)
theorem dM_L_law_3373 : decode cM_L_law 3373 = .ok (.aload_n 2, 1) := dz_o44 (lT_105 13)
theorem dM_L_law_3374 : decode cM_L_law 3374 = .ok (.invokevirtual 305, 3) := dz_o182 (lT_105 14) (lT_105 15) (lT_105 16) (by decide +kernel)
theorem wd_2850 : (Jvm.Cond.code ({ cls := "NoteDocumentModel", name := "undo", desc := "()I" } : Jvm.MethodName) prog_13_method_79_code (1 : Nat) (Option.some Jvm.ClassFile.FieldType.int)) ∈ BIG := big_t (List.mem_of_getElem? (i := 2850) (by decide +kernel)) (by decide +kernel)
theorem wd_2847 : (Jvm.Cond.methodLink "NoteDocumentLaw" (305 : Nat) ({ cls := "NoteDocumentModel", name := "undo", desc := "()I" } : Jvm.MethodName)) ∈ BIG := big_t (List.mem_of_getElem? (i := 2847) (by decide +kernel)) (by decide +kernel)
theorem wd_2848 : (Jvm.Cond.instanceMethod ({ cls := "NoteDocumentModel", name := "undo", desc := "()I" } : Jvm.MethodName)) ∈ BIG := big_t (List.mem_of_getElem? (i := 2848) (by decide +kernel)) (by decide +kernel)
theorem wd_2849 : (Jvm.Cond.selects "NoteDocumentModel" ({ cls := "NoteDocumentModel", name := "undo", desc := "()I" } : Jvm.MethodName) ({ cls := "NoteDocumentModel", name := "undo", desc := "()I" } : Jvm.MethodName)) ∈ BIG := big_t (List.mem_of_getElem? (i := 2849) (by decide +kernel)) (by decide +kernel)
theorem dM_L_law_3377 : decode cM_L_law 3377 = .ok (.istore 6, 2) := dz_o54 (lT_105 17) (lT_105 18) (by decide +kernel)
theorem dM_L_law_3379 : decode cM_L_law 3379 = .ok (.aload_n 2, 1) := dz_o44 (lT_105 19)
theorem dM_L_law_3380 : decode cM_L_law 3380 = .ok (.invokevirtual 158, 3) := dz_o182 (lT_105 20) (lT_105 21) (lT_105 22) (by decide +kernel)
theorem dM_L_law_3383 : decode cM_L_law 3383 = .ok (.iload 5, 2) := dz_o21 (lT_105 23) (lT_105 24) (by decide +kernel)
theorem dM_L_law_3385 : decode cM_L_law 3385 = .ok (.if_icmp .eq 5, 3) := dz_o159 (lT_105 25) (lT_105 26) (lT_105 27) (by decide +kernel)
theorem dM_L_law_3390 : decode cM_L_law 3390 = .ok (.iload 5, 2) := dz_o21 (lT_105 30) (lT_105 31) (by decide +kernel)
theorem dM_L_law_3392 : decode cM_L_law 3392 = .ok (.ifCond .ne 15, 3) := dz_o154 (lT_106 0) (lT_106 1) (lT_106 2) (by decide +kernel)
theorem dM_L_law_3407 : decode cM_L_law 3407 = .ok (.goto 3, 3) := dz_o167 (lT_106 15) (lT_106 16) (lT_106 17) (by decide +kernel)
set_option maxHeartbeats 4000000 in
set_option maxRecDepth 100000 in
theorem lawc_22 {p : Program} {e : Env} {s : State} {m : MethodId} {below : List Frame} {meth : Method} {c : Code} {Z : State → Prop} (l : Launch) (hl9 : l.stackTraces = false) (dC : Nat → ClassId) (dI : Nat → Nat → Nat) {A : Nat → Prop} {b L : Nat} {xs : Nat → Int32} (hL : L = 8) (hx : p.tables.exec = Jvm.exec) (hb : c.code = cM_L_law) (hml : c.maxLocals = 8) (hown : s.vm.findClass "NoteDocumentLaw" = some m.cls) (hbg : ∀ w ∈ BIG, w.before #[Value.ref b] s = true) (hK : nK (dC, dI) s) (hN : nS A s s.heap) (hA : ∀ q : Nat, s.heap.size ≤ q → A q) (hX : va_X b L xs s s.heap) (hbl : b < s.heap.size) (hbA : ¬ A b) {H : Heap} {locs : List Loc} {ls : Array Slot} {h0 : Nat} {m0 : Nat} {ou : Nat} {st : Nat} {v1 : Value} {v2 : Value} {v3 : Value} {v4 : Value} {v5 : Value} {v6 : Value} {v7 : Value} {v8 : Value} {v9 : Value} {v10 : Value} {w3 : Value} {w4 : Value} {w5 : Value} {w6 : Value} {w7 : Value} {w8 : Value} {w9 : Value} {w10 : Value} {w11 : Value} {w12 : Value} {w13 : Value} {w14 : Value} {w15 : Value} {w16 : Value} {w17 : Value} {w18 : Value} {w19 : Value} {f0 : Nat → Int64} {nw : Nat} {z1 : Value} {z2 : Value} {z3 : Value} {z4 : Value} {z5 : Value} {z6 : Value} {z7 : Value} {z8 : Value} {z9 : Value} {z10 : Value} {z11 : Value} {z12 : Value} {en : Nat} {z14 : Value} {z15 : Value} {z16 : Value} {t0 : Value} {t1 : Value} {t3 : Value} {t4 : Value} {t5 : Value} {t6 : Value} {t7 : Value} {t8 : Value} {t9 : Value} {t10 : Value} {t11 : Value} {t12 : Value} {t13 : Value} {t14 : Value} {t15 : Value} {t16 : Value} {t17 : Value} {t18 : Value} {t19 : Value} {t20 : Value} {t21 : Value} {e1 : Value} {e2 : Value} {e3 : Value} {e4 : Value} {e5 : Value} {e6 : Value} {e7 : Value} {e8 : Value} {e9 : Value} {e10 : Value} {e11 : Value} {e12 : Value} {e13 : Value} {e14 : Value} {e15 : Value} {e16 : Value} {e17 : Value} {e18 : Value} {e19 : Value} {e20 : Value} {e21 : Value} {e22 : Value} {e23 : Value} {e24 : Value} {e25 : Value} {e26 : Value} (hP : va_P (dC, dI) classes [(h0, .inr (0, [.ref st, v1, v2, v3, v4, v5, v6, v7, v8, v9, v10])), (st, .inr (8, [.int 0, .int 0, .int 0, w3, w4, w5, w6, w7, w8, w9, w10, w11, w12, w13, w14, w15, w16, w17, w18, w19])), (ou, .inl (dC 101, 1, .inr (.inl f0))), (m0, .inr (10, [.ref nw, z1, z2, z3, z4, z5, z6, z7, z8, z9, z10, z11, z12, .ref en, z14, z15, z16])), (nw, .inr (12, [t0, t1, .int 0, t3, t4, t5, t6, t7, t8, t9, t10, t11, t12, t13, t14, t15, t16, t17, t18, t19, t20, t21])), (en, .inr (11, [.int 1, e1, e2, e3, e4, e5, e6, e7, e8, e9, e10, e11, e12, e13, e14, e15, e16, e17, e18, e19, e20, e21, e22, e23, e24, e25, e26]))] H) (hD : va_D A [(h0, .inr (0, [.ref st, v1, v2, v3, v4, v5, v6, v7, v8, v9, v10])), (st, .inr (8, [.int 0, .int 0, .int 0, w3, w4, w5, w6, w7, w8, w9, w10, w11, w12, w13, w14, w15, w16, w17, w18, w19])), (ou, .inl (dC 101, 1, .inr (.inl f0))), (m0, .inr (10, [.ref nw, z1, z2, z3, z4, z5, z6, z7, z8, z9, z10, z11, z12, .ref en, z14, z15, z16])), (nw, .inr (12, [t0, t1, .int 0, t3, t4, t5, t6, t7, t8, t9, t10, t11, t12, t13, t14, t15, t16, t17, t18, t19, t20, t21])), (en, .inr (11, [.int 1, e1, e2, e3, e4, e5, e6, e7, e8, e9, e10, e11, e12, e13, e14, e15, e16, e17, e18, e19, e20, e21, e22, e23, e24, e25, e26]))]) (hS : va_S A s.heap H locs) (hl : lv_has ls 8 [(0, .ref b), (1, .ref h0), (2, .ref m0), (3, .ref ou), (4, .int 0)]) (hend : ∀ (H : Heap) (locs : List Loc) (ls : Array Slot), va_S A s.heap H locs → lv_has ls 8 [(4, .int 0), (0, .ref b)] → W p l e room_1 s m #[Value.ref b] below meth c H locs 600002 7302232 Z (F0 m 3410 ls [])) : W p l e room_1 s m #[Value.ref b] below meth c H locs 403 120029 Z (F0 m 1797 ls []) := by
  subst hL
  refine lv_aload_n hx hb dM_L_law_1797 rfl (lv_at hl 1 rfl) ?_
  refine lv_aload_n hx hb dM_L_law_1798 rfl (lv_at hl 0 rfl) ?_
  refine lv_iload hx hb dM_L_law_1799 (lv_at hl 4 rfl) ?_
  refine lv_iconst (v := 1) hx hb dM_L_law_1801 (by decide) ?_
  refine lv_iadd hx hb dM_L_law_1802 ?_
  refine lv_topi (fun y_1 ey_1 => ?_)
  obtain rfl : y_1 = 1 := ey_1.trans (by decide)
  refine va_sld hx hb hX hbl hbA hS (by unfold vp_in; decide) dM_L_law_1803 ?_
  refine lv_topi (fun y_2 ey_2 => ?_)
  refine lv_aload_n hx hb dM_L_law_1804 rfl (lv_at hl 0 rfl) ?_
  refine lv_iload hx hb dM_L_law_1805 (lv_at hl 4 rfl) ?_
  refine lv_iconst (v := 2) hx hb dM_L_law_1807 (by decide) ?_
  refine lv_iadd hx hb dM_L_law_1808 ?_
  refine lv_topi (fun y_3 ey_3 => ?_)
  obtain rfl : y_3 = 2 := ey_3.trans (by decide)
  refine va_sld hx hb hX hbl hbA hS (by unfold vp_in; decide) dM_L_law_1809 ?_
  refine lv_topi (fun y_4 ey_4 => ?_)
  refine lv_aload_n hx hb dM_L_law_1810 rfl (lv_at hl 0 rfl) ?_
  refine lv_iload hx hb dM_L_law_1811 (lv_at hl 4 rfl) ?_
  refine lv_iconst (v := 3) hx hb dM_L_law_1813 (by decide) ?_
  refine lv_iadd hx hb dM_L_law_1814 ?_
  refine lv_topi (fun y_5 ey_5 => ?_)
  obtain rfl : y_5 = 3 := ey_5.trans (by decide)
  refine va_sld hx hb hX hbl hbA hS (by unfold vp_in; decide) dM_L_law_1815 ?_
  refine lv_topi (fun y_6 ey_6 => ?_)
  refine lv_aload_n hx hb dM_L_law_1816 rfl (lv_at hl 3 rfl) ?_
  have hFc := va_free (wc := [(h0, .inr (0, [.ref st, v1, v2, v3, v4, v5, v6, v7, v8, v9, v10])), (st, .inr (8, [.int 0, .int 0, .int 0, w3, w4, w5, w6, w7, w8, w9, w10, w11, w12, w13, w14, w15, w16, w17, w18, w19])), (ou, .inl (dC 101, 1, .inr (.inl f0)))]) hD hS hA [0, 1, 2] rfl
  refine va_calli (vx_runSW (As := [.ref h0, .int y_2, .int y_4, .int y_6, .ref ou]) (rest := []) ⟨hx, hb, hml, hown, hbg⟩ (c_L_kind l hl9 dC dI h0 y_2 y_4 y_6 ou st v1 v2 v3 v4 v5 v6 v7 v8 v9 v10 w3 w4 w5 w6 w7 w8 w9 w10 w11 w12 w13 w14 w15 w16 w17 w18 w19 f0 _ ) (vx_cwSW 5 hbg (gd_S (fun _ h => h) wd_1375 wd_1376 wd_0 (gd_wmW (fun _ h => h) wd_1377)) rfl rfl rfl (by decide +kernel) ⟨Nat.le_of_ble_eq_true rfl, Nat.le_of_ble_eq_true rfl⟩) (nPreS [0, 1, 2] hP hD hK hN hS hA (by decide) rfl) rfl rfl hl.1 rfl (lv_room (Nat.le_of_ble_eq_true rfl)) dM_L_law_1817 ⟨Nat.le_of_ble_eq_true rfl, Nat.le_of_ble_eq_true rfl⟩) hS (fun q _ h => hFc q h) hFc (fun r_7 u t H1 locs ht hvm hw hB hz1 hk1 hS => ?_)
  obtain ⟨rfl, hu_9⟩ := hw
  obtain rfl := hu_9.symm
  obtain ⟨hP1, hD1⟩ := hB
  rw [ht] at hP1
  obtain ⟨hP, hD⟩ := va_join (wr := [(m0, .inr (10, [.ref nw, z1, z2, z3, z4, z5, z6, z7, z8, z9, z10, z11, z12, .ref en, z14, z15, z16])), (nw, .inr (12, [t0, t1, .int 0, t3, t4, t5, t6, t7, t8, t9, t10, t11, t12, t13, t14, t15, t16, t17, t18, t19, t20, t21])), (en, .inr (11, [.int 1, e1, e2, e3, e4, e5, e6, e7, e8, e9, e10, e11, e12, e13, e14, e15, e16, e17, e18, e19, e20, e21, e22, e23, e24, e25, e26]))]) (w1 := [(ou, .inl (dC 101, 1, .inr (.inl f0)))]) hP hD [0, 1, 2] [3, 4, 5] rfl rfl (by decide) (by decide) hk1 hFc hP1 hD1
  generalize H1 = H at hP hS ⊢
  have hP : va_P (dC, dI) classes [(m0, .inr (10, [.ref nw, z1, z2, z3, z4, z5, z6, z7, z8, z9, z10, z11, z12, .ref en, z14, z15, z16])), (nw, .inr (12, [t0, t1, .int 0, t3, t4, t5, t6, t7, t8, t9, t10, t11, t12, t13, t14, t15, t16, t17, t18, t19, t20, t21])), (en, .inr (11, [.int 1, e1, e2, e3, e4, e5, e6, e7, e8, e9, e10, e11, e12, e13, e14, e15, e16, e17, e18, e19, e20, e21, e22, e23, e24, e25, e26])), (ou, .inl (dC 101, 1, .inr (.inl f0)))] H := hP
  have hD : va_D A [(m0, .inr (10, [.ref nw, z1, z2, z3, z4, z5, z6, z7, z8, z9, z10, z11, z12, .ref en, z14, z15, z16])), (nw, .inr (12, [t0, t1, .int 0, t3, t4, t5, t6, t7, t8, t9, t10, t11, t12, t13, t14, t15, t16, t17, t18, t19, t20, t21])), (en, .inr (11, [.int 1, e1, e2, e3, e4, e5, e6, e7, e8, e9, e10, e11, e12, e13, e14, e15, e16, e17, e18, e19, e20, e21, e22, e23, e24, e25, e26])), (ou, .inl (dC 101, 1, .inr (.inl f0)))] := hD
  refine W.widen (k := 404) (n := 120035) (Nat.le_of_ble_eq_true rfl) (Nat.le_of_ble_eq_true rfl) ?_
  refine lv_istore (lv' := [(5, .int 1), (0, .ref b), (1, .ref h0), (2, .ref m0), (3, .ref ou), (4, .int 0)]) hx hb dM_L_law_1820 hl (by decide) rfl (fun ls hl => ?_)
  refine lv_aload_n hx hb dM_L_law_1822 rfl (lv_at hl 3 rfl) ?_
  refine lv_aload_n hx hb dM_L_law_1823 rfl (lv_at hl 1 rfl) ?_
  refine lv_iload hx hb dM_L_law_1824 (lv_at hl 5 rfl) ?_
  refine lv_iconst (v := 1) hx hb dM_L_law_1826 (by decide) ?_
  refine lv_iadd hx hb dM_L_law_1827 ?_
  refine lv_topi (fun y_10 ey_10 => ?_)
  obtain rfl : y_10 = 1 := ey_10.trans (by decide)
  refine va_sld hx hb hX hbl hbA hS (by unfold vp_in; decide) dM_L_law_1828 ?_
  refine lv_topi (fun y_11 ey_11 => ?_)
  obtain rfl : y_2 = y_11 := ey_2.trans ey_11.symm
  refine lv_aload_n hx hb dM_L_law_1829 rfl (lv_at hl 1 rfl) ?_
  refine lv_iload hx hb dM_L_law_1830 (lv_at hl 5 rfl) ?_
  refine lv_iconst (v := 2) hx hb dM_L_law_1832 (by decide) ?_
  refine lv_iadd hx hb dM_L_law_1833 ?_
  refine lv_topi (fun y_12 ey_12 => ?_)
  obtain rfl : y_12 = 2 := ey_12.trans (by decide)
  refine va_sld hx hb hX hbl hbA hS (by unfold vp_in; decide) dM_L_law_1834 ?_
  refine lv_topi (fun y_13 ey_13 => ?_)
  obtain rfl : y_4 = y_13 := ey_4.trans ey_13.symm
  refine lv_aload_n hx hb dM_L_law_1835 rfl (lv_at hl 1 rfl) ?_
  refine lv_iload hx hb dM_L_law_1836 (lv_at hl 5 rfl) ?_
  refine lv_iconst (v := 3) hx hb dM_L_law_1838 (by decide) ?_
  refine lv_iadd hx hb dM_L_law_1839 ?_
  refine lv_topi (fun y_14 ey_14 => ?_)
  obtain rfl : y_14 = 3 := ey_14.trans (by decide)
  refine va_sld hx hb hX hbl hbA hS (by unfold vp_in; decide) dM_L_law_1840 ?_
  refine lv_topi (fun y_15 ey_15 => ?_)
  obtain rfl : y_6 = y_15 := ey_6.trans ey_15.symm
  have hFc := va_free (wc := [(m0, .inr (10, [.ref nw, z1, z2, z3, z4, z5, z6, z7, z8, z9, z10, z11, z12, .ref en, z14, z15, z16])), (nw, .inr (12, [t0, t1, .int 0, t3, t4, t5, t6, t7, t8, t9, t10, t11, t12, t13, t14, t15, t16, t17, t18, t19, t20, t21])), (en, .inr (11, [.int 1, e1, e2, e3, e4, e5, e6, e7, e8, e9, e10, e11, e12, e13, e14, e15, e16, e17, e18, e19, e20, e21, e22, e23, e24, e25, e26]))]) hD hS hA [0, 1, 2] rfl
  refine va_calli (va_runV (As := [.int y_2, .int y_4, .int y_6]) (rest := []) ⟨hx, hb, hml, hown, hbg⟩ (c_M_kind l dC dI m0 y_2 y_4 y_6 nw z1 z2 z3 z4 z5 z6 z7 z8 z9 z10 z11 z12 en z14 z15 z16 t0 t1 t3 t4 t5 t6 t7 t8 t9 t10 t11 t12 t13 t14 t15 t16 t17 t18 t19 t20 t21 e1 e2 e3 e4 e5 e6 e7 e8 e9 e10 e11 e12 e13 e14 e15 e16 e17 e18 e19 e20 e21 e22 e23 e24 e25 e26 _ ) (cwV 3 hbg (gd_V (fun _ h => h) wd_2687 wd_2688 wd_2689 wd_12 (gd_wm (fun _ h => h) wd_2690)) rfl rfl rfl (by decide +kernel) ⟨Nat.le_of_ble_eq_true rfl, Nat.le_of_ble_eq_true rfl⟩) (nPreV [0, 1, 2] hP hD hK hN hS hA (by decide) rfl 0 rfl rfl) rfl rfl hl.1 rfl (lv_room (Nat.le_of_ble_eq_true rfl)) dM_L_law_1841 ⟨Nat.le_of_ble_eq_true rfl, Nat.le_of_ble_eq_true rfl⟩) hS (fun q _ h => hFc q h) hFc (fun r_16 u t H1 locs ht hvm hw hB hz1 hk1 hS => ?_)
  obtain ⟨rfl, rfl⟩ := hw
  obtain ⟨r0_18, r1_19, r2_20, r3_21, r4_22, r5_23, r6_24, r7_25, r8_26, r9_27, r10_28, r11_29, r12_30, r13_31, r14_32, r15_33, hP1, hD1⟩ := hB
  rw [ht] at hP1
  obtain ⟨hP, hD⟩ := va_join (wr := [(ou, .inl (dC 101, 1, .inr (.inl f0)))]) (w1 := [(m0, .inr (10, [r0_18, r1_19, r2_20, r3_21, r4_22, r5_23, r6_24, r7_25, r8_26, r9_27, r10_28, r11_29, r12_30, r13_31, r14_32, r15_33, .int 1]))]) hP hD [0, 1, 2] [3] rfl rfl (by decide) (by decide) hk1 hFc hP1 hD1
  generalize H1 = H at hP hS ⊢
  have hP : va_P (dC, dI) classes [(ou, .inl (dC 101, 1, .inr (.inl f0))), (m0, .inr (10, [r0_18, r1_19, r2_20, r3_21, r4_22, r5_23, r6_24, r7_25, r8_26, r9_27, r10_28, r11_29, r12_30, r13_31, r14_32, r15_33, .int 1]))] H := hP
  have hD : va_D A [(ou, .inl (dC 101, 1, .inr (.inl f0))), (m0, .inr (10, [r0_18, r1_19, r2_20, r3_21, r4_22, r5_23, r6_24, r7_25, r8_26, r9_27, r10_28, r11_29, r12_30, r13_31, r14_32, r15_33, .int 1]))] := hD
  refine W.widen (k := 405) (n := 120043) (Nat.le_of_ble_eq_true rfl) (Nat.le_of_ble_eq_true rfl) ?_
  refine lv_istore (lv' := [(6, .int 0), (5, .int 1), (0, .ref b), (1, .ref h0), (2, .ref m0), (3, .ref ou), (4, .int 0)]) hx hb dM_L_law_1844 hl (by decide) rfl (fun ls hl => ?_)
  refine lv_aload_n hx hb dM_L_law_1846 rfl (lv_at hl 4 rfl) ?_
  have hFc := va_free (wc := [(m0, .inr (10, [r0_18, r1_19, r2_20, r3_21, r4_22, r5_23, r6_24, r7_25, r8_26, r9_27, r10_28, r11_29, r12_30, r13_31, r14_32, r15_33, .int 1]))]) hD hS hA [1] rfl
  refine va_calli (va_runV (As := []) (rest := []) ⟨hx, hb, hml, hown, hbg⟩ (c_M_thrown l dC dI m0 r0_18 r1_19 r2_20 r3_21 r4_22 r5_23 r6_24 r7_25 r8_26 r9_27 r10_28 r11_29 r12_30 r13_31 r14_32 r15_33 1 _ ) (cwV 0 hbg (gd_V (fun _ h => h) wd_2190 wd_2191 wd_2192 wd_12 (gd_wm (fun _ h => h) wd_2193)) rfl rfl rfl (by decide +kernel) ⟨Nat.le_of_ble_eq_true rfl, Nat.le_of_ble_eq_true rfl⟩) (nPreV [1] hP hD hK hN hS hA (by decide) rfl 1 rfl rfl) rfl rfl hl.1 rfl (lv_room (Nat.le_of_ble_eq_true rfl)) dM_L_law_1847 ⟨Nat.le_of_ble_eq_true rfl, Nat.le_of_ble_eq_true rfl⟩) hS (fun q _ h => hFc q h) hFc (fun r_34 u t H1 locs ht hvm hw hB hz1 hk1 hS => ?_)
  obtain ⟨rfl, rfl⟩ := hw
  obtain ⟨r0_36, r1_37, r2_38, r3_39, r4_40, r5_41, r6_42, r7_43, r8_44, r9_45, r10_46, r11_47, r12_48, r13_49, r14_50, r15_51, hP1, hD1⟩ := hB
  rw [ht] at hP1
  obtain ⟨hP, hD⟩ := va_join (wr := [(ou, .inl (dC 101, 1, .inr (.inl f0)))]) (w1 := [(m0, .inr (10, [r0_36, r1_37, r2_38, r3_39, r4_40, r5_41, r6_42, r7_43, r8_44, r9_45, r10_46, r11_47, r12_48, r13_49, r14_50, r15_51, .int 1]))]) hP hD [1] [0] rfl rfl (by decide) (by decide) hk1 hFc hP1 hD1
  generalize H1 = H at hP hS ⊢
  have hP : va_P (dC, dI) classes [(ou, .inl (dC 101, 1, .inr (.inl f0))), (m0, .inr (10, [r0_36, r1_37, r2_38, r3_39, r4_40, r5_41, r6_42, r7_43, r8_44, r9_45, r10_46, r11_47, r12_48, r13_49, r14_50, r15_51, .int 1]))] H := hP
  have hD : va_D A [(ou, .inl (dC 101, 1, .inr (.inl f0))), (m0, .inr (10, [r0_36, r1_37, r2_38, r3_39, r4_40, r5_41, r6_42, r7_43, r8_44, r9_45, r10_46, r11_47, r12_48, r13_49, r14_50, r15_51, .int 1]))] := hD
  refine W.widen (k := 405) (n := 120043) (Nat.le_of_ble_eq_true rfl) (Nat.le_of_ble_eq_true rfl) ?_
  refine lv_iload hx hb dM_L_law_1850 (lv_at hl 1 rfl) ?_
  refine lv_icmp_eq (tgt := 1857) hx hb dM_L_law_1852 (by decide) (fun _ => ?_) (fun q => absurd (by decide) q)
  refine lv_iload hx hb dM_L_law_1857 (lv_at hl 1 rfl) ?_
  refine lv_if_ne (tgt := 1874) hx hb dM_L_law_1859 (by decide) (fun _ => ?_) (fun q => absurd q (by decide))
  refine lv_goto (tgt := 3410) hx hb dM_L_law_1874 (by decide) ?_
  refine W.widen (k := 600002) (n := 7302232) (Nat.le_of_ble_eq_true rfl) (Nat.le_of_ble_eq_true rfl) ?_
  exact hend _ _ _ hS (lv_sub hl [6, 2] rfl)
set_option maxHeartbeats 4000000 in
set_option maxRecDepth 100000 in
theorem lawc_23 {p : Program} {e : Env} {s : State} {m : MethodId} {below : List Frame} {meth : Method} {c : Code} {Z : State → Prop} (l : Launch) (hl9 : l.stackTraces = false) (dC : Nat → ClassId) (dI : Nat → Nat → Nat) {A : Nat → Prop} {b L : Nat} {xs : Nat → Int32} (hL : L = 8) (hx : p.tables.exec = Jvm.exec) (hb : c.code = cM_L_law) (hml : c.maxLocals = 8) (hown : s.vm.findClass "NoteDocumentLaw" = some m.cls) (hbg : ∀ w ∈ BIG, w.before #[Value.ref b] s = true) (hK : nK (dC, dI) s) (hN : nS A s s.heap) (hA : ∀ q : Nat, s.heap.size ≤ q → A q) (hX : va_X b L xs s s.heap) (hbl : b < s.heap.size) (hbA : ¬ A b) {H : Heap} {locs : List Loc} {ls : Array Slot} {h0 : Nat} {m0 : Nat} {ou : Nat} {st : Nat} {v1 : Value} {v2 : Value} {v3 : Value} {v4 : Value} {v5 : Value} {v6 : Value} {v7 : Value} {v8 : Value} {v9 : Value} {v10 : Value} {w3 : Value} {w4 : Value} {w5 : Value} {w6 : Value} {w7 : Value} {w8 : Value} {w9 : Value} {w10 : Value} {w11 : Value} {w12 : Value} {w13 : Value} {w14 : Value} {w15 : Value} {w16 : Value} {w17 : Value} {w18 : Value} {w19 : Value} {f0 : Nat → Int64} {nw : Nat} {z1 : Value} {z2 : Value} {z3 : Value} {z4 : Value} {z5 : Value} {z6 : Value} {z7 : Value} {z8 : Value} {z9 : Value} {z10 : Value} {z11 : Value} {z12 : Value} {en : Nat} {z14 : Value} {z15 : Value} {z16 : Value} {t0 : Value} {t1 : Value} {t3 : Value} {t4 : Value} {t5 : Value} {t6 : Value} {t7 : Value} {t8 : Value} {t9 : Value} {t10 : Value} {t11 : Value} {t12 : Value} {t13 : Value} {t14 : Value} {t15 : Value} {t16 : Value} {t17 : Value} {t18 : Value} {t19 : Value} {t20 : Value} {t21 : Value} {e1 : Value} {e2 : Value} {e3 : Value} {e4 : Value} {e5 : Value} {e6 : Value} {e7 : Value} {e8 : Value} {e9 : Value} {e10 : Value} {e11 : Value} {e12 : Value} {e13 : Value} {e14 : Value} {e15 : Value} {e16 : Value} {e17 : Value} {e18 : Value} {e19 : Value} {e20 : Value} {e21 : Value} {e22 : Value} {e23 : Value} {e24 : Value} {e25 : Value} {e26 : Value} (hP : va_P (dC, dI) classes [(h0, .inr (0, [.ref st, v1, v2, v3, v4, v5, v6, v7, v8, v9, v10])), (st, .inr (8, [.int 0, .int 0, .int 0, w3, w4, w5, w6, w7, w8, w9, w10, w11, w12, w13, w14, w15, w16, w17, w18, w19])), (ou, .inl (dC 101, 1, .inr (.inl f0))), (m0, .inr (10, [.ref nw, z1, z2, z3, z4, z5, z6, z7, z8, z9, z10, z11, z12, .ref en, z14, z15, z16])), (nw, .inr (12, [t0, t1, .int 0, t3, t4, t5, t6, t7, t8, t9, t10, t11, t12, t13, t14, t15, t16, t17, t18, t19, t20, t21])), (en, .inr (11, [.int 1, e1, e2, e3, e4, e5, e6, e7, e8, e9, e10, e11, e12, e13, e14, e15, e16, e17, e18, e19, e20, e21, e22, e23, e24, e25, e26]))] H) (hD : va_D A [(h0, .inr (0, [.ref st, v1, v2, v3, v4, v5, v6, v7, v8, v9, v10])), (st, .inr (8, [.int 0, .int 0, .int 0, w3, w4, w5, w6, w7, w8, w9, w10, w11, w12, w13, w14, w15, w16, w17, w18, w19])), (ou, .inl (dC 101, 1, .inr (.inl f0))), (m0, .inr (10, [.ref nw, z1, z2, z3, z4, z5, z6, z7, z8, z9, z10, z11, z12, .ref en, z14, z15, z16])), (nw, .inr (12, [t0, t1, .int 0, t3, t4, t5, t6, t7, t8, t9, t10, t11, t12, t13, t14, t15, t16, t17, t18, t19, t20, t21])), (en, .inr (11, [.int 1, e1, e2, e3, e4, e5, e6, e7, e8, e9, e10, e11, e12, e13, e14, e15, e16, e17, e18, e19, e20, e21, e22, e23, e24, e25, e26]))]) (hS : va_S A s.heap H locs) (hl : lv_has ls 8 [(0, .ref b), (1, .ref h0), (2, .ref m0), (3, .ref ou), (4, .int 0)]) (hend : ∀ (H : Heap) (locs : List Loc) (ls : Array Slot), va_S A s.heap H locs → lv_has ls 8 [(4, .int 0), (0, .ref b)] → W p l e room_1 s m #[Value.ref b] below meth c H locs 600002 7302232 Z (F0 m 3410 ls [])) : W p l e room_1 s m #[Value.ref b] below meth c H locs 403 120029 Z (F0 m 1877 ls []) := by
  subst hL
  refine lv_aload_n hx hb dM_L_law_1877 rfl (lv_at hl 1 rfl) ?_
  refine lv_aload_n hx hb dM_L_law_1878 rfl (lv_at hl 0 rfl) ?_
  refine lv_iload hx hb dM_L_law_1879 (lv_at hl 4 rfl) ?_
  refine lv_iconst (v := 1) hx hb dM_L_law_1881 (by decide) ?_
  refine lv_iadd hx hb dM_L_law_1882 ?_
  refine lv_topi (fun y_1 ey_1 => ?_)
  obtain rfl : y_1 = 1 := ey_1.trans (by decide)
  refine va_sld hx hb hX hbl hbA hS (by unfold vp_in; decide) dM_L_law_1883 ?_
  refine lv_topi (fun y_2 ey_2 => ?_)
  refine lv_aload_n hx hb dM_L_law_1884 rfl (lv_at hl 0 rfl) ?_
  refine lv_iload hx hb dM_L_law_1885 (lv_at hl 4 rfl) ?_
  refine lv_iconst (v := 2) hx hb dM_L_law_1887 (by decide) ?_
  refine lv_iadd hx hb dM_L_law_1888 ?_
  refine lv_topi (fun y_3 ey_3 => ?_)
  obtain rfl : y_3 = 2 := ey_3.trans (by decide)
  refine va_sld hx hb hX hbl hbA hS (by unfold vp_in; decide) dM_L_law_1889 ?_
  refine lv_topi (fun y_4 ey_4 => ?_)
  refine lv_aload_n hx hb dM_L_law_1890 rfl (lv_at hl 0 rfl) ?_
  refine lv_iload hx hb dM_L_law_1891 (lv_at hl 4 rfl) ?_
  refine lv_iconst (v := 3) hx hb dM_L_law_1893 (by decide) ?_
  refine lv_iadd hx hb dM_L_law_1894 ?_
  refine lv_topi (fun y_5 ey_5 => ?_)
  obtain rfl : y_5 = 3 := ey_5.trans (by decide)
  refine va_sld hx hb hX hbl hbA hS (by unfold vp_in; decide) dM_L_law_1895 ?_
  refine lv_topi (fun y_6 ey_6 => ?_)
  refine lv_aload_n hx hb dM_L_law_1896 rfl (lv_at hl 3 rfl) ?_
  have hFc := va_free (wc := [(h0, .inr (0, [.ref st, v1, v2, v3, v4, v5, v6, v7, v8, v9, v10])), (st, .inr (8, [.int 0, .int 0, .int 0, w3, w4, w5, w6, w7, w8, w9, w10, w11, w12, w13, w14, w15, w16, w17, w18, w19])), (ou, .inl (dC 101, 1, .inr (.inl f0)))]) hD hS hA [0, 1, 2] rfl
  refine va_calli (vx_runSW (As := [.ref h0, .int y_2, .int y_4, .int y_6, .ref ou]) (rest := []) ⟨hx, hb, hml, hown, hbg⟩ (c_L_value l hl9 dC dI h0 y_2 y_4 y_6 ou st v1 v2 v3 v4 v5 v6 v7 v8 v9 v10 w3 w4 w5 w6 w7 w8 w9 w10 w11 w12 w13 w14 w15 w16 w17 w18 w19 f0 _ ) (vx_cwSW 5 hbg (gd_S (fun _ h => h) wd_1408 wd_1409 wd_0 (gd_wmW (fun _ h => h) wd_1410)) rfl rfl rfl (by decide +kernel) ⟨Nat.le_of_ble_eq_true rfl, Nat.le_of_ble_eq_true rfl⟩) (nPreS [0, 1, 2] hP hD hK hN hS hA (by decide) rfl) rfl rfl hl.1 rfl (lv_room (Nat.le_of_ble_eq_true rfl)) dM_L_law_1897 ⟨Nat.le_of_ble_eq_true rfl, Nat.le_of_ble_eq_true rfl⟩) hS (fun q _ h => hFc q h) hFc (fun r_7 u t H1 locs ht hvm hw hB hz1 hk1 hS => ?_)
  obtain ⟨rfl, hu_9⟩ := hw
  obtain rfl := hu_9.symm
  obtain ⟨hP1, hD1⟩ := hB
  rw [ht] at hP1
  obtain ⟨hP, hD⟩ := va_join (wr := [(m0, .inr (10, [.ref nw, z1, z2, z3, z4, z5, z6, z7, z8, z9, z10, z11, z12, .ref en, z14, z15, z16])), (nw, .inr (12, [t0, t1, .int 0, t3, t4, t5, t6, t7, t8, t9, t10, t11, t12, t13, t14, t15, t16, t17, t18, t19, t20, t21])), (en, .inr (11, [.int 1, e1, e2, e3, e4, e5, e6, e7, e8, e9, e10, e11, e12, e13, e14, e15, e16, e17, e18, e19, e20, e21, e22, e23, e24, e25, e26]))]) (w1 := [(ou, .inl (dC 101, 1, .inr (.inl f0)))]) hP hD [0, 1, 2] [3, 4, 5] rfl rfl (by decide) (by decide) hk1 hFc hP1 hD1
  generalize H1 = H at hP hS ⊢
  have hP : va_P (dC, dI) classes [(m0, .inr (10, [.ref nw, z1, z2, z3, z4, z5, z6, z7, z8, z9, z10, z11, z12, .ref en, z14, z15, z16])), (nw, .inr (12, [t0, t1, .int 0, t3, t4, t5, t6, t7, t8, t9, t10, t11, t12, t13, t14, t15, t16, t17, t18, t19, t20, t21])), (en, .inr (11, [.int 1, e1, e2, e3, e4, e5, e6, e7, e8, e9, e10, e11, e12, e13, e14, e15, e16, e17, e18, e19, e20, e21, e22, e23, e24, e25, e26])), (ou, .inl (dC 101, 1, .inr (.inl f0)))] H := hP
  have hD : va_D A [(m0, .inr (10, [.ref nw, z1, z2, z3, z4, z5, z6, z7, z8, z9, z10, z11, z12, .ref en, z14, z15, z16])), (nw, .inr (12, [t0, t1, .int 0, t3, t4, t5, t6, t7, t8, t9, t10, t11, t12, t13, t14, t15, t16, t17, t18, t19, t20, t21])), (en, .inr (11, [.int 1, e1, e2, e3, e4, e5, e6, e7, e8, e9, e10, e11, e12, e13, e14, e15, e16, e17, e18, e19, e20, e21, e22, e23, e24, e25, e26])), (ou, .inl (dC 101, 1, .inr (.inl f0)))] := hD
  refine W.widen (k := 404) (n := 120035) (Nat.le_of_ble_eq_true rfl) (Nat.le_of_ble_eq_true rfl) ?_
  refine lv_istore (lv' := [(5, .int 1), (0, .ref b), (1, .ref h0), (2, .ref m0), (3, .ref ou), (4, .int 0)]) hx hb dM_L_law_1900 hl (by decide) rfl (fun ls hl => ?_)
  refine lv_aload_n hx hb dM_L_law_1902 rfl (lv_at hl 3 rfl) ?_
  refine lv_aload_n hx hb dM_L_law_1903 rfl (lv_at hl 1 rfl) ?_
  refine lv_iload hx hb dM_L_law_1904 (lv_at hl 5 rfl) ?_
  refine lv_iconst (v := 1) hx hb dM_L_law_1906 (by decide) ?_
  refine lv_iadd hx hb dM_L_law_1907 ?_
  refine lv_topi (fun y_10 ey_10 => ?_)
  obtain rfl : y_10 = 1 := ey_10.trans (by decide)
  refine va_sld hx hb hX hbl hbA hS (by unfold vp_in; decide) dM_L_law_1908 ?_
  refine lv_topi (fun y_11 ey_11 => ?_)
  obtain rfl : y_2 = y_11 := ey_2.trans ey_11.symm
  refine lv_aload_n hx hb dM_L_law_1909 rfl (lv_at hl 1 rfl) ?_
  refine lv_iload hx hb dM_L_law_1910 (lv_at hl 5 rfl) ?_
  refine lv_iconst (v := 2) hx hb dM_L_law_1912 (by decide) ?_
  refine lv_iadd hx hb dM_L_law_1913 ?_
  refine lv_topi (fun y_12 ey_12 => ?_)
  obtain rfl : y_12 = 2 := ey_12.trans (by decide)
  refine va_sld hx hb hX hbl hbA hS (by unfold vp_in; decide) dM_L_law_1914 ?_
  refine lv_topi (fun y_13 ey_13 => ?_)
  obtain rfl : y_4 = y_13 := ey_4.trans ey_13.symm
  refine lv_aload_n hx hb dM_L_law_1915 rfl (lv_at hl 1 rfl) ?_
  refine lv_iload hx hb dM_L_law_1916 (lv_at hl 5 rfl) ?_
  refine lv_iconst (v := 3) hx hb dM_L_law_1918 (by decide) ?_
  refine lv_iadd hx hb dM_L_law_1919 ?_
  refine lv_topi (fun y_14 ey_14 => ?_)
  obtain rfl : y_14 = 3 := ey_14.trans (by decide)
  refine va_sld hx hb hX hbl hbA hS (by unfold vp_in; decide) dM_L_law_1920 ?_
  refine lv_topi (fun y_15 ey_15 => ?_)
  obtain rfl : y_6 = y_15 := ey_6.trans ey_15.symm
  have hFc := va_free (wc := [(m0, .inr (10, [.ref nw, z1, z2, z3, z4, z5, z6, z7, z8, z9, z10, z11, z12, .ref en, z14, z15, z16])), (nw, .inr (12, [t0, t1, .int 0, t3, t4, t5, t6, t7, t8, t9, t10, t11, t12, t13, t14, t15, t16, t17, t18, t19, t20, t21])), (en, .inr (11, [.int 1, e1, e2, e3, e4, e5, e6, e7, e8, e9, e10, e11, e12, e13, e14, e15, e16, e17, e18, e19, e20, e21, e22, e23, e24, e25, e26]))]) hD hS hA [0, 1, 2] rfl
  refine va_calll (va_runV (As := [.int y_2, .int y_4, .int y_6]) (rest := []) ⟨hx, hb, hml, hown, hbg⟩ (c_M_value l dC dI m0 y_2 y_4 y_6 nw z1 z2 z3 z4 z5 z6 z7 z8 z9 z10 z11 z12 en z14 z15 z16 t0 t1 t3 t4 t5 t6 t7 t8 t9 t10 t11 t12 t13 t14 t15 t16 t17 t18 t19 t20 t21 e1 e2 e3 e4 e5 e6 e7 e8 e9 e10 e11 e12 e13 e14 e15 e16 e17 e18 e19 e20 e21 e22 e23 e24 e25 e26 _ ) (cwV 3 hbg (gd_V (fun _ h => h) wd_2709 wd_2710 wd_2711 wd_12 (gd_wm (fun _ h => h) wd_2712)) rfl rfl rfl (by decide +kernel) ⟨Nat.le_of_ble_eq_true rfl, Nat.le_of_ble_eq_true rfl⟩) (nPreV [0, 1, 2] hP hD hK hN hS hA (by decide) rfl 0 rfl rfl) rfl rfl hl.1 rfl (lv_room (Nat.le_of_ble_eq_true rfl)) dM_L_law_1921 ⟨Nat.le_of_ble_eq_true rfl, Nat.le_of_ble_eq_true rfl⟩) hS (fun q _ h => hFc q h) hFc (fun r_16 u t H1 locs ht hvm hw hB hz1 hk1 hS => ?_)
  obtain ⟨rfl, rfl⟩ := hw
  obtain ⟨r0_18, r1_19, r2_20, r3_21, r4_22, r5_23, r6_24, r7_25, r8_26, r9_27, r10_28, r11_29, r12_30, r13_31, r14_32, r15_33, hP1, hD1⟩ := hB
  rw [ht] at hP1
  obtain ⟨hP, hD⟩ := va_join (wr := [(ou, .inl (dC 101, 1, .inr (.inl f0)))]) (w1 := [(m0, .inr (10, [r0_18, r1_19, r2_20, r3_21, r4_22, r5_23, r6_24, r7_25, r8_26, r9_27, r10_28, r11_29, r12_30, r13_31, r14_32, r15_33, .int 1]))]) hP hD [0, 1, 2] [3] rfl rfl (by decide) (by decide) hk1 hFc hP1 hD1
  generalize H1 = H at hP hS ⊢
  have hP : va_P (dC, dI) classes [(ou, .inl (dC 101, 1, .inr (.inl f0))), (m0, .inr (10, [r0_18, r1_19, r2_20, r3_21, r4_22, r5_23, r6_24, r7_25, r8_26, r9_27, r10_28, r11_29, r12_30, r13_31, r14_32, r15_33, .int 1]))] H := hP
  have hD : va_D A [(ou, .inl (dC 101, 1, .inr (.inl f0))), (m0, .inr (10, [r0_18, r1_19, r2_20, r3_21, r4_22, r5_23, r6_24, r7_25, r8_26, r9_27, r10_28, r11_29, r12_30, r13_31, r14_32, r15_33, .int 1]))] := hD
  refine W.widen (k := 405) (n := 120043) (Nat.le_of_ble_eq_true rfl) (Nat.le_of_ble_eq_true rfl) ?_
  refine lv_lstore (lv' := [(6, .long 0), (5, .int 1), (0, .ref b), (1, .ref h0), (2, .ref m0), (3, .ref ou), (4, .int 0)]) hx hb dM_L_law_1924 hl (by decide) rfl (fun ls hl => ?_)
  refine lv_aload_n hx hb dM_L_law_1926 rfl (lv_at hl 4 rfl) ?_
  have hFc := va_free (wc := [(m0, .inr (10, [r0_18, r1_19, r2_20, r3_21, r4_22, r5_23, r6_24, r7_25, r8_26, r9_27, r10_28, r11_29, r12_30, r13_31, r14_32, r15_33, .int 1]))]) hD hS hA [1] rfl
  refine va_calli (va_runV (As := []) (rest := []) ⟨hx, hb, hml, hown, hbg⟩ (c_M_thrown l dC dI m0 r0_18 r1_19 r2_20 r3_21 r4_22 r5_23 r6_24 r7_25 r8_26 r9_27 r10_28 r11_29 r12_30 r13_31 r14_32 r15_33 1 _ ) (cwV 0 hbg (gd_V (fun _ h => h) wd_2190 wd_2191 wd_2192 wd_12 (gd_wm (fun _ h => h) wd_2193)) rfl rfl rfl (by decide +kernel) ⟨Nat.le_of_ble_eq_true rfl, Nat.le_of_ble_eq_true rfl⟩) (nPreV [1] hP hD hK hN hS hA (by decide) rfl 1 rfl rfl) rfl rfl hl.1 rfl (lv_room (Nat.le_of_ble_eq_true rfl)) dM_L_law_1927 ⟨Nat.le_of_ble_eq_true rfl, Nat.le_of_ble_eq_true rfl⟩) hS (fun q _ h => hFc q h) hFc (fun r_34 u t H1 locs ht hvm hw hB hz1 hk1 hS => ?_)
  obtain ⟨rfl, rfl⟩ := hw
  obtain ⟨r0_36, r1_37, r2_38, r3_39, r4_40, r5_41, r6_42, r7_43, r8_44, r9_45, r10_46, r11_47, r12_48, r13_49, r14_50, r15_51, hP1, hD1⟩ := hB
  rw [ht] at hP1
  obtain ⟨hP, hD⟩ := va_join (wr := [(ou, .inl (dC 101, 1, .inr (.inl f0)))]) (w1 := [(m0, .inr (10, [r0_36, r1_37, r2_38, r3_39, r4_40, r5_41, r6_42, r7_43, r8_44, r9_45, r10_46, r11_47, r12_48, r13_49, r14_50, r15_51, .int 1]))]) hP hD [1] [0] rfl rfl (by decide) (by decide) hk1 hFc hP1 hD1
  generalize H1 = H at hP hS ⊢
  have hP : va_P (dC, dI) classes [(ou, .inl (dC 101, 1, .inr (.inl f0))), (m0, .inr (10, [r0_36, r1_37, r2_38, r3_39, r4_40, r5_41, r6_42, r7_43, r8_44, r9_45, r10_46, r11_47, r12_48, r13_49, r14_50, r15_51, .int 1]))] H := hP
  have hD : va_D A [(ou, .inl (dC 101, 1, .inr (.inl f0))), (m0, .inr (10, [r0_36, r1_37, r2_38, r3_39, r4_40, r5_41, r6_42, r7_43, r8_44, r9_45, r10_46, r11_47, r12_48, r13_49, r14_50, r15_51, .int 1]))] := hD
  refine W.widen (k := 405) (n := 120043) (Nat.le_of_ble_eq_true rfl) (Nat.le_of_ble_eq_true rfl) ?_
  refine lv_iload hx hb dM_L_law_1930 (lv_at hl 1 rfl) ?_
  refine lv_icmp_eq (tgt := 1937) hx hb dM_L_law_1932 (by decide) (fun _ => ?_) (fun q => absurd (by decide) q)
  refine lv_iload hx hb dM_L_law_1937 (lv_at hl 1 rfl) ?_
  refine lv_if_ne (tgt := 1953) hx hb dM_L_law_1939 (by decide) (fun _ => ?_) (fun q => absurd q (by decide))
  refine lv_goto (tgt := 3410) hx hb dM_L_law_1953 (by decide) ?_
  refine W.widen (k := 600002) (n := 7302232) (Nat.le_of_ble_eq_true rfl) (Nat.le_of_ble_eq_true rfl) ?_
  exact hend _ _ _ hS (lv_sub hl [6, 2] rfl)
set_option maxHeartbeats 4000000 in
set_option maxRecDepth 100000 in
theorem lawc_24 {p : Program} {e : Env} {s : State} {m : MethodId} {below : List Frame} {meth : Method} {c : Code} {Z : State → Prop} (l : Launch) (hl9 : l.stackTraces = false) (dC : Nat → ClassId) (dI : Nat → Nat → Nat) {A : Nat → Prop} {b L : Nat} {xs : Nat → Int32} (hL : L = 8) (hx : p.tables.exec = Jvm.exec) (hb : c.code = cM_L_law) (hml : c.maxLocals = 8) (hown : s.vm.findClass "NoteDocumentLaw" = some m.cls) (hbg : ∀ w ∈ BIG, w.before #[Value.ref b] s = true) (hK : nK (dC, dI) s) (hN : nS A s s.heap) (hA : ∀ q : Nat, s.heap.size ≤ q → A q) (hX : va_X b L xs s s.heap) (hbl : b < s.heap.size) (hbA : ¬ A b) {H : Heap} {locs : List Loc} {ls : Array Slot} {h0 : Nat} {m0 : Nat} {ou : Nat} {st : Nat} {v1 : Value} {v2 : Value} {v3 : Value} {v4 : Value} {v5 : Value} {v6 : Value} {v7 : Value} {v8 : Value} {v9 : Value} {v10 : Value} {w3 : Value} {w4 : Value} {w5 : Value} {w6 : Value} {w7 : Value} {w8 : Value} {w9 : Value} {w10 : Value} {w11 : Value} {w12 : Value} {w13 : Value} {w14 : Value} {w15 : Value} {w16 : Value} {w17 : Value} {w18 : Value} {w19 : Value} {f0 : Nat → Int64} {nw : Nat} {z1 : Value} {z2 : Value} {z3 : Value} {z4 : Value} {z5 : Value} {z6 : Value} {z7 : Value} {z8 : Value} {z9 : Value} {z10 : Value} {z11 : Value} {z12 : Value} {en : Nat} {z14 : Value} {z15 : Value} {z16 : Value} {t0 : Value} {t1 : Value} {t3 : Value} {t4 : Value} {t5 : Value} {t6 : Value} {t7 : Value} {t8 : Value} {t9 : Value} {t10 : Value} {t11 : Value} {t12 : Value} {t13 : Value} {t14 : Value} {t15 : Value} {t16 : Value} {t17 : Value} {t18 : Value} {t19 : Value} {t20 : Value} {t21 : Value} {e1 : Value} {e2 : Value} {e3 : Value} {e4 : Value} {e5 : Value} {e6 : Value} {e7 : Value} {e8 : Value} {e9 : Value} {e10 : Value} {e11 : Value} {e12 : Value} {e13 : Value} {e14 : Value} {e15 : Value} {e16 : Value} {e17 : Value} {e18 : Value} {e19 : Value} {e20 : Value} {e21 : Value} {e22 : Value} {e23 : Value} {e24 : Value} {e25 : Value} {e26 : Value} (hP : va_P (dC, dI) classes [(h0, .inr (0, [.ref st, v1, v2, v3, v4, v5, v6, v7, v8, v9, v10])), (st, .inr (8, [.int 0, .int 0, .int 0, w3, w4, w5, w6, w7, w8, w9, w10, w11, w12, w13, w14, w15, w16, w17, w18, w19])), (ou, .inl (dC 101, 1, .inr (.inl f0))), (m0, .inr (10, [.ref nw, z1, z2, z3, z4, z5, z6, z7, z8, z9, z10, z11, z12, .ref en, z14, z15, z16])), (nw, .inr (12, [t0, t1, .int 0, t3, t4, t5, t6, t7, t8, t9, t10, t11, t12, t13, t14, t15, t16, t17, t18, t19, t20, t21])), (en, .inr (11, [.int 1, e1, e2, e3, e4, e5, e6, e7, e8, e9, e10, e11, e12, e13, e14, e15, e16, e17, e18, e19, e20, e21, e22, e23, e24, e25, e26]))] H) (hD : va_D A [(h0, .inr (0, [.ref st, v1, v2, v3, v4, v5, v6, v7, v8, v9, v10])), (st, .inr (8, [.int 0, .int 0, .int 0, w3, w4, w5, w6, w7, w8, w9, w10, w11, w12, w13, w14, w15, w16, w17, w18, w19])), (ou, .inl (dC 101, 1, .inr (.inl f0))), (m0, .inr (10, [.ref nw, z1, z2, z3, z4, z5, z6, z7, z8, z9, z10, z11, z12, .ref en, z14, z15, z16])), (nw, .inr (12, [t0, t1, .int 0, t3, t4, t5, t6, t7, t8, t9, t10, t11, t12, t13, t14, t15, t16, t17, t18, t19, t20, t21])), (en, .inr (11, [.int 1, e1, e2, e3, e4, e5, e6, e7, e8, e9, e10, e11, e12, e13, e14, e15, e16, e17, e18, e19, e20, e21, e22, e23, e24, e25, e26]))]) (hS : va_S A s.heap H locs) (hl : lv_has ls 8 [(0, .ref b), (1, .ref h0), (2, .ref m0), (3, .ref ou), (4, .int 0)]) (hend : ∀ (H : Heap) (locs : List Loc) (ls : Array Slot), va_S A s.heap H locs → lv_has ls 8 [(4, .int 0), (0, .ref b)] → W p l e room_1 s m #[Value.ref b] below meth c H locs 600002 7302232 Z (F0 m 3410 ls [])) : W p l e room_1 s m #[Value.ref b] below meth c H locs 403 120029 Z (F0 m 1956 ls []) := by
  subst hL
  refine lv_aload_n hx hb dM_L_law_1956 rfl (lv_at hl 1 rfl) ?_
  refine lv_aload_n hx hb dM_L_law_1957 rfl (lv_at hl 0 rfl) ?_
  refine lv_iload hx hb dM_L_law_1958 (lv_at hl 4 rfl) ?_
  refine lv_iconst (v := 1) hx hb dM_L_law_1960 (by decide) ?_
  refine lv_iadd hx hb dM_L_law_1961 ?_
  refine lv_topi (fun y_1 ey_1 => ?_)
  obtain rfl : y_1 = 1 := ey_1.trans (by decide)
  refine va_sld hx hb hX hbl hbA hS (by unfold vp_in; decide) dM_L_law_1962 ?_
  refine lv_topi (fun y_2 ey_2 => ?_)
  refine lv_aload_n hx hb dM_L_law_1963 rfl (lv_at hl 0 rfl) ?_
  refine lv_iload hx hb dM_L_law_1964 (lv_at hl 4 rfl) ?_
  refine lv_iconst (v := 2) hx hb dM_L_law_1966 (by decide) ?_
  refine lv_iadd hx hb dM_L_law_1967 ?_
  refine lv_topi (fun y_3 ey_3 => ?_)
  obtain rfl : y_3 = 2 := ey_3.trans (by decide)
  refine va_sld hx hb hX hbl hbA hS (by unfold vp_in; decide) dM_L_law_1968 ?_
  refine lv_topi (fun y_4 ey_4 => ?_)
  refine lv_aload_n hx hb dM_L_law_1969 rfl (lv_at hl 0 rfl) ?_
  refine lv_iload hx hb dM_L_law_1970 (lv_at hl 4 rfl) ?_
  refine lv_iconst (v := 3) hx hb dM_L_law_1972 (by decide) ?_
  refine lv_iadd hx hb dM_L_law_1973 ?_
  refine lv_topi (fun y_5 ey_5 => ?_)
  obtain rfl : y_5 = 3 := ey_5.trans (by decide)
  refine va_sld hx hb hX hbl hbA hS (by unfold vp_in; decide) dM_L_law_1974 ?_
  refine lv_topi (fun y_6 ey_6 => ?_)
  refine lv_aload_n hx hb dM_L_law_1975 rfl (lv_at hl 3 rfl) ?_
  have hFc := va_free (wc := [(h0, .inr (0, [.ref st, v1, v2, v3, v4, v5, v6, v7, v8, v9, v10])), (st, .inr (8, [.int 0, .int 0, .int 0, w3, w4, w5, w6, w7, w8, w9, w10, w11, w12, w13, w14, w15, w16, w17, w18, w19])), (ou, .inl (dC 101, 1, .inr (.inl f0)))]) hD hS hA [0, 1, 2] rfl
  refine va_calli (vx_runSW (As := [.ref h0, .int y_2, .int y_4, .int y_6, .ref ou]) (rest := []) ⟨hx, hb, hml, hown, hbg⟩ (c_L_spills l hl9 dC dI h0 y_2 y_4 y_6 ou st v1 v2 v3 v4 v5 v6 v7 v8 v9 v10 w3 w4 w5 w6 w7 w8 w9 w10 w11 w12 w13 w14 w15 w16 w17 w18 w19 f0 _ ) (vx_cwSW 5 hbg (gd_S (fun _ h => h) wd_1419 wd_1420 wd_0 (gd_wmW (fun _ h => h) wd_1421)) rfl rfl rfl (by decide +kernel) ⟨Nat.le_of_ble_eq_true rfl, Nat.le_of_ble_eq_true rfl⟩) (nPreS [0, 1, 2] hP hD hK hN hS hA (by decide) rfl) rfl rfl hl.1 rfl (lv_room (Nat.le_of_ble_eq_true rfl)) dM_L_law_1976 ⟨Nat.le_of_ble_eq_true rfl, Nat.le_of_ble_eq_true rfl⟩) hS (fun q _ h => hFc q h) hFc (fun r_7 u t H1 locs ht hvm hw hB hz1 hk1 hS => ?_)
  obtain ⟨rfl, hu_9⟩ := hw
  obtain rfl := hu_9.symm
  obtain ⟨hP1, hD1⟩ := hB
  rw [ht] at hP1
  obtain ⟨hP, hD⟩ := va_join (wr := [(m0, .inr (10, [.ref nw, z1, z2, z3, z4, z5, z6, z7, z8, z9, z10, z11, z12, .ref en, z14, z15, z16])), (nw, .inr (12, [t0, t1, .int 0, t3, t4, t5, t6, t7, t8, t9, t10, t11, t12, t13, t14, t15, t16, t17, t18, t19, t20, t21])), (en, .inr (11, [.int 1, e1, e2, e3, e4, e5, e6, e7, e8, e9, e10, e11, e12, e13, e14, e15, e16, e17, e18, e19, e20, e21, e22, e23, e24, e25, e26]))]) (w1 := [(ou, .inl (dC 101, 1, .inr (.inl f0)))]) hP hD [0, 1, 2] [3, 4, 5] rfl rfl (by decide) (by decide) hk1 hFc hP1 hD1
  generalize H1 = H at hP hS ⊢
  have hP : va_P (dC, dI) classes [(m0, .inr (10, [.ref nw, z1, z2, z3, z4, z5, z6, z7, z8, z9, z10, z11, z12, .ref en, z14, z15, z16])), (nw, .inr (12, [t0, t1, .int 0, t3, t4, t5, t6, t7, t8, t9, t10, t11, t12, t13, t14, t15, t16, t17, t18, t19, t20, t21])), (en, .inr (11, [.int 1, e1, e2, e3, e4, e5, e6, e7, e8, e9, e10, e11, e12, e13, e14, e15, e16, e17, e18, e19, e20, e21, e22, e23, e24, e25, e26])), (ou, .inl (dC 101, 1, .inr (.inl f0)))] H := hP
  have hD : va_D A [(m0, .inr (10, [.ref nw, z1, z2, z3, z4, z5, z6, z7, z8, z9, z10, z11, z12, .ref en, z14, z15, z16])), (nw, .inr (12, [t0, t1, .int 0, t3, t4, t5, t6, t7, t8, t9, t10, t11, t12, t13, t14, t15, t16, t17, t18, t19, t20, t21])), (en, .inr (11, [.int 1, e1, e2, e3, e4, e5, e6, e7, e8, e9, e10, e11, e12, e13, e14, e15, e16, e17, e18, e19, e20, e21, e22, e23, e24, e25, e26])), (ou, .inl (dC 101, 1, .inr (.inl f0)))] := hD
  refine W.widen (k := 404) (n := 120035) (Nat.le_of_ble_eq_true rfl) (Nat.le_of_ble_eq_true rfl) ?_
  refine lv_istore (lv' := [(5, .int 1), (0, .ref b), (1, .ref h0), (2, .ref m0), (3, .ref ou), (4, .int 0)]) hx hb dM_L_law_1979 hl (by decide) rfl (fun ls hl => ?_)
  refine lv_aload_n hx hb dM_L_law_1981 rfl (lv_at hl 3 rfl) ?_
  refine lv_aload_n hx hb dM_L_law_1982 rfl (lv_at hl 1 rfl) ?_
  refine lv_iload hx hb dM_L_law_1983 (lv_at hl 5 rfl) ?_
  refine lv_iconst (v := 1) hx hb dM_L_law_1985 (by decide) ?_
  refine lv_iadd hx hb dM_L_law_1986 ?_
  refine lv_topi (fun y_10 ey_10 => ?_)
  obtain rfl : y_10 = 1 := ey_10.trans (by decide)
  refine va_sld hx hb hX hbl hbA hS (by unfold vp_in; decide) dM_L_law_1987 ?_
  refine lv_topi (fun y_11 ey_11 => ?_)
  obtain rfl : y_2 = y_11 := ey_2.trans ey_11.symm
  refine lv_aload_n hx hb dM_L_law_1988 rfl (lv_at hl 1 rfl) ?_
  refine lv_iload hx hb dM_L_law_1989 (lv_at hl 5 rfl) ?_
  refine lv_iconst (v := 2) hx hb dM_L_law_1991 (by decide) ?_
  refine lv_iadd hx hb dM_L_law_1992 ?_
  refine lv_topi (fun y_12 ey_12 => ?_)
  obtain rfl : y_12 = 2 := ey_12.trans (by decide)
  refine va_sld hx hb hX hbl hbA hS (by unfold vp_in; decide) dM_L_law_1993 ?_
  refine lv_topi (fun y_13 ey_13 => ?_)
  obtain rfl : y_4 = y_13 := ey_4.trans ey_13.symm
  refine lv_aload_n hx hb dM_L_law_1994 rfl (lv_at hl 1 rfl) ?_
  refine lv_iload hx hb dM_L_law_1995 (lv_at hl 5 rfl) ?_
  refine lv_iconst (v := 3) hx hb dM_L_law_1997 (by decide) ?_
  refine lv_iadd hx hb dM_L_law_1998 ?_
  refine lv_topi (fun y_14 ey_14 => ?_)
  obtain rfl : y_14 = 3 := ey_14.trans (by decide)
  refine va_sld hx hb hX hbl hbA hS (by unfold vp_in; decide) dM_L_law_1999 ?_
  refine lv_topi (fun y_15 ey_15 => ?_)
  obtain rfl : y_6 = y_15 := ey_6.trans ey_15.symm
  have hFc := va_free (wc := [(m0, .inr (10, [.ref nw, z1, z2, z3, z4, z5, z6, z7, z8, z9, z10, z11, z12, .ref en, z14, z15, z16])), (nw, .inr (12, [t0, t1, .int 0, t3, t4, t5, t6, t7, t8, t9, t10, t11, t12, t13, t14, t15, t16, t17, t18, t19, t20, t21])), (en, .inr (11, [.int 1, e1, e2, e3, e4, e5, e6, e7, e8, e9, e10, e11, e12, e13, e14, e15, e16, e17, e18, e19, e20, e21, e22, e23, e24, e25, e26]))]) hD hS hA [0, 1, 2] rfl
  refine va_calli (va_runV (As := [.int y_2, .int y_4, .int y_6]) (rest := []) ⟨hx, hb, hml, hown, hbg⟩ (c_M_spills l dC dI m0 y_2 y_4 y_6 nw z1 z2 z3 z4 z5 z6 z7 z8 z9 z10 z11 z12 en z14 z15 z16 t0 t1 t3 t4 t5 t6 t7 t8 t9 t10 t11 t12 t13 t14 t15 t16 t17 t18 t19 t20 t21 e1 e2 e3 e4 e5 e6 e7 e8 e9 e10 e11 e12 e13 e14 e15 e16 e17 e18 e19 e20 e21 e22 e23 e24 e25 e26 _ ) (cwV 3 hbg (gd_V (fun _ h => h) wd_2713 wd_2714 wd_2715 wd_12 (gd_wm (fun _ h => h) wd_2716)) rfl rfl rfl (by decide +kernel) ⟨Nat.le_of_ble_eq_true rfl, Nat.le_of_ble_eq_true rfl⟩) (nPreV [0, 1, 2] hP hD hK hN hS hA (by decide) rfl 0 rfl rfl) rfl rfl hl.1 rfl (lv_room (Nat.le_of_ble_eq_true rfl)) dM_L_law_2000 ⟨Nat.le_of_ble_eq_true rfl, Nat.le_of_ble_eq_true rfl⟩) hS (fun q _ h => hFc q h) hFc (fun r_16 u t H1 locs ht hvm hw hB hz1 hk1 hS => ?_)
  obtain ⟨rfl, rfl⟩ := hw
  obtain ⟨r0_18, r1_19, r2_20, r3_21, r4_22, r5_23, r6_24, r7_25, r8_26, r9_27, r10_28, r11_29, r12_30, r13_31, r14_32, r15_33, hP1, hD1⟩ := hB
  rw [ht] at hP1
  obtain ⟨hP, hD⟩ := va_join (wr := [(ou, .inl (dC 101, 1, .inr (.inl f0)))]) (w1 := [(m0, .inr (10, [r0_18, r1_19, r2_20, r3_21, r4_22, r5_23, r6_24, r7_25, r8_26, r9_27, r10_28, r11_29, r12_30, r13_31, r14_32, r15_33, .int 1]))]) hP hD [0, 1, 2] [3] rfl rfl (by decide) (by decide) hk1 hFc hP1 hD1
  generalize H1 = H at hP hS ⊢
  have hP : va_P (dC, dI) classes [(ou, .inl (dC 101, 1, .inr (.inl f0))), (m0, .inr (10, [r0_18, r1_19, r2_20, r3_21, r4_22, r5_23, r6_24, r7_25, r8_26, r9_27, r10_28, r11_29, r12_30, r13_31, r14_32, r15_33, .int 1]))] H := hP
  have hD : va_D A [(ou, .inl (dC 101, 1, .inr (.inl f0))), (m0, .inr (10, [r0_18, r1_19, r2_20, r3_21, r4_22, r5_23, r6_24, r7_25, r8_26, r9_27, r10_28, r11_29, r12_30, r13_31, r14_32, r15_33, .int 1]))] := hD
  refine W.widen (k := 405) (n := 120043) (Nat.le_of_ble_eq_true rfl) (Nat.le_of_ble_eq_true rfl) ?_
  refine lv_istore (lv' := [(6, .int 0), (5, .int 1), (0, .ref b), (1, .ref h0), (2, .ref m0), (3, .ref ou), (4, .int 0)]) hx hb dM_L_law_2003 hl (by decide) rfl (fun ls hl => ?_)
  refine lv_aload_n hx hb dM_L_law_2005 rfl (lv_at hl 4 rfl) ?_
  have hFc := va_free (wc := [(m0, .inr (10, [r0_18, r1_19, r2_20, r3_21, r4_22, r5_23, r6_24, r7_25, r8_26, r9_27, r10_28, r11_29, r12_30, r13_31, r14_32, r15_33, .int 1]))]) hD hS hA [1] rfl
  refine va_calli (va_runV (As := []) (rest := []) ⟨hx, hb, hml, hown, hbg⟩ (c_M_thrown l dC dI m0 r0_18 r1_19 r2_20 r3_21 r4_22 r5_23 r6_24 r7_25 r8_26 r9_27 r10_28 r11_29 r12_30 r13_31 r14_32 r15_33 1 _ ) (cwV 0 hbg (gd_V (fun _ h => h) wd_2190 wd_2191 wd_2192 wd_12 (gd_wm (fun _ h => h) wd_2193)) rfl rfl rfl (by decide +kernel) ⟨Nat.le_of_ble_eq_true rfl, Nat.le_of_ble_eq_true rfl⟩) (nPreV [1] hP hD hK hN hS hA (by decide) rfl 1 rfl rfl) rfl rfl hl.1 rfl (lv_room (Nat.le_of_ble_eq_true rfl)) dM_L_law_2006 ⟨Nat.le_of_ble_eq_true rfl, Nat.le_of_ble_eq_true rfl⟩) hS (fun q _ h => hFc q h) hFc (fun r_34 u t H1 locs ht hvm hw hB hz1 hk1 hS => ?_)
  obtain ⟨rfl, rfl⟩ := hw
  obtain ⟨r0_36, r1_37, r2_38, r3_39, r4_40, r5_41, r6_42, r7_43, r8_44, r9_45, r10_46, r11_47, r12_48, r13_49, r14_50, r15_51, hP1, hD1⟩ := hB
  rw [ht] at hP1
  obtain ⟨hP, hD⟩ := va_join (wr := [(ou, .inl (dC 101, 1, .inr (.inl f0)))]) (w1 := [(m0, .inr (10, [r0_36, r1_37, r2_38, r3_39, r4_40, r5_41, r6_42, r7_43, r8_44, r9_45, r10_46, r11_47, r12_48, r13_49, r14_50, r15_51, .int 1]))]) hP hD [1] [0] rfl rfl (by decide) (by decide) hk1 hFc hP1 hD1
  generalize H1 = H at hP hS ⊢
  have hP : va_P (dC, dI) classes [(ou, .inl (dC 101, 1, .inr (.inl f0))), (m0, .inr (10, [r0_36, r1_37, r2_38, r3_39, r4_40, r5_41, r6_42, r7_43, r8_44, r9_45, r10_46, r11_47, r12_48, r13_49, r14_50, r15_51, .int 1]))] H := hP
  have hD : va_D A [(ou, .inl (dC 101, 1, .inr (.inl f0))), (m0, .inr (10, [r0_36, r1_37, r2_38, r3_39, r4_40, r5_41, r6_42, r7_43, r8_44, r9_45, r10_46, r11_47, r12_48, r13_49, r14_50, r15_51, .int 1]))] := hD
  refine W.widen (k := 405) (n := 120043) (Nat.le_of_ble_eq_true rfl) (Nat.le_of_ble_eq_true rfl) ?_
  refine lv_iload hx hb dM_L_law_2009 (lv_at hl 1 rfl) ?_
  refine lv_icmp_eq (tgt := 2016) hx hb dM_L_law_2011 (by decide) (fun _ => ?_) (fun q => absurd (by decide) q)
  refine lv_iload hx hb dM_L_law_2016 (lv_at hl 1 rfl) ?_
  refine lv_if_ne (tgt := 2033) hx hb dM_L_law_2018 (by decide) (fun _ => ?_) (fun q => absurd q (by decide))
  refine lv_goto (tgt := 3410) hx hb dM_L_law_2033 (by decide) ?_
  refine W.widen (k := 600002) (n := 7302232) (Nat.le_of_ble_eq_true rfl) (Nat.le_of_ble_eq_true rfl) ?_
  exact hend _ _ _ hS (lv_sub hl [6, 2] rfl)
set_option maxHeartbeats 4000000 in
set_option maxRecDepth 100000 in
theorem lawc_25 {p : Program} {e : Env} {s : State} {m : MethodId} {below : List Frame} {meth : Method} {c : Code} {Z : State → Prop} (l : Launch) (hl9 : l.stackTraces = false) (dC : Nat → ClassId) (dI : Nat → Nat → Nat) {A : Nat → Prop} {b L : Nat} {xs : Nat → Int32} (hL : L = 8) (hx : p.tables.exec = Jvm.exec) (hb : c.code = cM_L_law) (hml : c.maxLocals = 8) (hown : s.vm.findClass "NoteDocumentLaw" = some m.cls) (hbg : ∀ w ∈ BIG, w.before #[Value.ref b] s = true) (hK : nK (dC, dI) s) (hN : nS A s s.heap) (hA : ∀ q : Nat, s.heap.size ≤ q → A q) (hX : va_X b L xs s s.heap) (hbl : b < s.heap.size) (hbA : ¬ A b) {H : Heap} {locs : List Loc} {ls : Array Slot} {h0 : Nat} {m0 : Nat} {ou : Nat} {st : Nat} {v1 : Value} {v2 : Value} {v3 : Value} {v4 : Value} {v5 : Value} {v6 : Value} {v7 : Value} {v8 : Value} {v9 : Value} {v10 : Value} {w3 : Value} {w4 : Value} {w5 : Value} {w6 : Value} {w7 : Value} {w8 : Value} {w9 : Value} {w10 : Value} {w11 : Value} {w12 : Value} {w13 : Value} {w14 : Value} {w15 : Value} {w16 : Value} {w17 : Value} {w18 : Value} {w19 : Value} {f0 : Nat → Int64} {nw : Nat} {z1 : Value} {z2 : Value} {z3 : Value} {z4 : Value} {z5 : Value} {z6 : Value} {z7 : Value} {z8 : Value} {z9 : Value} {z10 : Value} {z11 : Value} {z12 : Value} {en : Nat} {z14 : Value} {z15 : Value} {z16 : Value} {t0 : Value} {t1 : Value} {t3 : Value} {t4 : Value} {t5 : Value} {t6 : Value} {t7 : Value} {t8 : Value} {t9 : Value} {t10 : Value} {t11 : Value} {t12 : Value} {t13 : Value} {t14 : Value} {t15 : Value} {t16 : Value} {t17 : Value} {t18 : Value} {t19 : Value} {t20 : Value} {t21 : Value} {e1 : Value} {e2 : Value} {e3 : Value} {e4 : Value} {e5 : Value} {e6 : Value} {e7 : Value} {e8 : Value} {e9 : Value} {e10 : Value} {e11 : Value} {e12 : Value} {e13 : Value} {e14 : Value} {e15 : Value} {e16 : Value} {e17 : Value} {e18 : Value} {e19 : Value} {e20 : Value} {e21 : Value} {e22 : Value} {e23 : Value} {e24 : Value} {e25 : Value} {e26 : Value} (hP : va_P (dC, dI) classes [(h0, .inr (0, [.ref st, v1, v2, v3, v4, v5, v6, v7, v8, v9, v10])), (st, .inr (8, [.int 0, .int 0, .int 0, w3, w4, w5, w6, w7, w8, w9, w10, w11, w12, w13, w14, w15, w16, w17, w18, w19])), (ou, .inl (dC 101, 1, .inr (.inl f0))), (m0, .inr (10, [.ref nw, z1, z2, z3, z4, z5, z6, z7, z8, z9, z10, z11, z12, .ref en, z14, z15, z16])), (nw, .inr (12, [t0, t1, .int 0, t3, t4, t5, t6, t7, t8, t9, t10, t11, t12, t13, t14, t15, t16, t17, t18, t19, t20, t21])), (en, .inr (11, [.int 1, e1, e2, e3, e4, e5, e6, e7, e8, e9, e10, e11, e12, e13, e14, e15, e16, e17, e18, e19, e20, e21, e22, e23, e24, e25, e26]))] H) (hD : va_D A [(h0, .inr (0, [.ref st, v1, v2, v3, v4, v5, v6, v7, v8, v9, v10])), (st, .inr (8, [.int 0, .int 0, .int 0, w3, w4, w5, w6, w7, w8, w9, w10, w11, w12, w13, w14, w15, w16, w17, w18, w19])), (ou, .inl (dC 101, 1, .inr (.inl f0))), (m0, .inr (10, [.ref nw, z1, z2, z3, z4, z5, z6, z7, z8, z9, z10, z11, z12, .ref en, z14, z15, z16])), (nw, .inr (12, [t0, t1, .int 0, t3, t4, t5, t6, t7, t8, t9, t10, t11, t12, t13, t14, t15, t16, t17, t18, t19, t20, t21])), (en, .inr (11, [.int 1, e1, e2, e3, e4, e5, e6, e7, e8, e9, e10, e11, e12, e13, e14, e15, e16, e17, e18, e19, e20, e21, e22, e23, e24, e25, e26]))]) (hS : va_S A s.heap H locs) (hl : lv_has ls 8 [(0, .ref b), (1, .ref h0), (2, .ref m0), (3, .ref ou), (4, .int 0)]) (hend : ∀ (H : Heap) (locs : List Loc) (ls : Array Slot), va_S A s.heap H locs → lv_has ls 8 [(4, .int 0), (0, .ref b)] → W p l e room_1 s m #[Value.ref b] below meth c H locs 600002 7302232 Z (F0 m 3410 ls [])) : W p l e room_1 s m #[Value.ref b] below meth c H locs 403 120029 Z (F0 m 2036 ls []) := by
  subst hL
  refine lv_aload_n hx hb dM_L_law_2036 rfl (lv_at hl 1 rfl) ?_
  refine lv_aload_n hx hb dM_L_law_2037 rfl (lv_at hl 0 rfl) ?_
  refine lv_iload hx hb dM_L_law_2038 (lv_at hl 4 rfl) ?_
  refine lv_iconst (v := 1) hx hb dM_L_law_2040 (by decide) ?_
  refine lv_iadd hx hb dM_L_law_2041 ?_
  refine lv_topi (fun y_1 ey_1 => ?_)
  obtain rfl : y_1 = 1 := ey_1.trans (by decide)
  refine va_sld hx hb hX hbl hbA hS (by unfold vp_in; decide) dM_L_law_2042 ?_
  refine lv_topi (fun y_2 ey_2 => ?_)
  refine lv_aload_n hx hb dM_L_law_2043 rfl (lv_at hl 0 rfl) ?_
  refine lv_iload hx hb dM_L_law_2044 (lv_at hl 4 rfl) ?_
  refine lv_iconst (v := 2) hx hb dM_L_law_2046 (by decide) ?_
  refine lv_iadd hx hb dM_L_law_2047 ?_
  refine lv_topi (fun y_3 ey_3 => ?_)
  obtain rfl : y_3 = 2 := ey_3.trans (by decide)
  refine va_sld hx hb hX hbl hbA hS (by unfold vp_in; decide) dM_L_law_2048 ?_
  refine lv_topi (fun y_4 ey_4 => ?_)
  refine lv_aload_n hx hb dM_L_law_2049 rfl (lv_at hl 0 rfl) ?_
  refine lv_iload hx hb dM_L_law_2050 (lv_at hl 4 rfl) ?_
  refine lv_iconst (v := 3) hx hb dM_L_law_2052 (by decide) ?_
  refine lv_iadd hx hb dM_L_law_2053 ?_
  refine lv_topi (fun y_5 ey_5 => ?_)
  obtain rfl : y_5 = 3 := ey_5.trans (by decide)
  refine va_sld hx hb hX hbl hbA hS (by unfold vp_in; decide) dM_L_law_2054 ?_
  refine lv_topi (fun y_6 ey_6 => ?_)
  refine lv_aload_n hx hb dM_L_law_2055 rfl (lv_at hl 3 rfl) ?_
  have hFc := va_free (wc := [(h0, .inr (0, [.ref st, v1, v2, v3, v4, v5, v6, v7, v8, v9, v10])), (st, .inr (8, [.int 0, .int 0, .int 0, w3, w4, w5, w6, w7, w8, w9, w10, w11, w12, w13, w14, w15, w16, w17, w18, w19])), (ou, .inl (dC 101, 1, .inr (.inl f0)))]) hD hS hA [0, 1, 2] rfl
  refine va_calli (vx_runSW (As := [.ref h0, .int y_2, .int y_4, .int y_6, .ref ou]) (rest := []) ⟨hx, hb, hml, hown, hbg⟩ (c_L_through l hl9 dC dI h0 y_2 y_4 y_6 ou st v1 v2 v3 v4 v5 v6 v7 v8 v9 v10 w3 w4 w5 w6 w7 w8 w9 w10 w11 w12 w13 w14 w15 w16 w17 w18 w19 f0 _ ) (vx_cwSW 5 hbg (gd_S (fun _ h => h) wd_1427 wd_1428 wd_0 (gd_wmW (fun _ h => h) wd_1429)) rfl rfl rfl (by decide +kernel) ⟨Nat.le_of_ble_eq_true rfl, Nat.le_of_ble_eq_true rfl⟩) (nPreS [0, 1, 2] hP hD hK hN hS hA (by decide) rfl) rfl rfl hl.1 rfl (lv_room (Nat.le_of_ble_eq_true rfl)) dM_L_law_2056 ⟨Nat.le_of_ble_eq_true rfl, Nat.le_of_ble_eq_true rfl⟩) hS (fun q _ h => hFc q h) hFc (fun r_7 u t H1 locs ht hvm hw hB hz1 hk1 hS => ?_)
  obtain ⟨rfl, hu_9⟩ := hw
  obtain rfl := hu_9.symm
  obtain ⟨hP1, hD1⟩ := hB
  rw [ht] at hP1
  obtain ⟨hP, hD⟩ := va_join (wr := [(m0, .inr (10, [.ref nw, z1, z2, z3, z4, z5, z6, z7, z8, z9, z10, z11, z12, .ref en, z14, z15, z16])), (nw, .inr (12, [t0, t1, .int 0, t3, t4, t5, t6, t7, t8, t9, t10, t11, t12, t13, t14, t15, t16, t17, t18, t19, t20, t21])), (en, .inr (11, [.int 1, e1, e2, e3, e4, e5, e6, e7, e8, e9, e10, e11, e12, e13, e14, e15, e16, e17, e18, e19, e20, e21, e22, e23, e24, e25, e26]))]) (w1 := [(ou, .inl (dC 101, 1, .inr (.inl f0)))]) hP hD [0, 1, 2] [3, 4, 5] rfl rfl (by decide) (by decide) hk1 hFc hP1 hD1
  generalize H1 = H at hP hS ⊢
  have hP : va_P (dC, dI) classes [(m0, .inr (10, [.ref nw, z1, z2, z3, z4, z5, z6, z7, z8, z9, z10, z11, z12, .ref en, z14, z15, z16])), (nw, .inr (12, [t0, t1, .int 0, t3, t4, t5, t6, t7, t8, t9, t10, t11, t12, t13, t14, t15, t16, t17, t18, t19, t20, t21])), (en, .inr (11, [.int 1, e1, e2, e3, e4, e5, e6, e7, e8, e9, e10, e11, e12, e13, e14, e15, e16, e17, e18, e19, e20, e21, e22, e23, e24, e25, e26])), (ou, .inl (dC 101, 1, .inr (.inl f0)))] H := hP
  have hD : va_D A [(m0, .inr (10, [.ref nw, z1, z2, z3, z4, z5, z6, z7, z8, z9, z10, z11, z12, .ref en, z14, z15, z16])), (nw, .inr (12, [t0, t1, .int 0, t3, t4, t5, t6, t7, t8, t9, t10, t11, t12, t13, t14, t15, t16, t17, t18, t19, t20, t21])), (en, .inr (11, [.int 1, e1, e2, e3, e4, e5, e6, e7, e8, e9, e10, e11, e12, e13, e14, e15, e16, e17, e18, e19, e20, e21, e22, e23, e24, e25, e26])), (ou, .inl (dC 101, 1, .inr (.inl f0)))] := hD
  refine W.widen (k := 404) (n := 120035) (Nat.le_of_ble_eq_true rfl) (Nat.le_of_ble_eq_true rfl) ?_
  refine lv_istore (lv' := [(5, .int 1), (0, .ref b), (1, .ref h0), (2, .ref m0), (3, .ref ou), (4, .int 0)]) hx hb dM_L_law_2059 hl (by decide) rfl (fun ls hl => ?_)
  refine lv_aload_n hx hb dM_L_law_2061 rfl (lv_at hl 3 rfl) ?_
  refine lv_aload_n hx hb dM_L_law_2062 rfl (lv_at hl 1 rfl) ?_
  refine lv_iload hx hb dM_L_law_2063 (lv_at hl 5 rfl) ?_
  refine lv_iconst (v := 1) hx hb dM_L_law_2065 (by decide) ?_
  refine lv_iadd hx hb dM_L_law_2066 ?_
  refine lv_topi (fun y_10 ey_10 => ?_)
  obtain rfl : y_10 = 1 := ey_10.trans (by decide)
  refine va_sld hx hb hX hbl hbA hS (by unfold vp_in; decide) dM_L_law_2067 ?_
  refine lv_topi (fun y_11 ey_11 => ?_)
  obtain rfl : y_2 = y_11 := ey_2.trans ey_11.symm
  refine lv_aload_n hx hb dM_L_law_2068 rfl (lv_at hl 1 rfl) ?_
  refine lv_iload hx hb dM_L_law_2069 (lv_at hl 5 rfl) ?_
  refine lv_iconst (v := 2) hx hb dM_L_law_2071 (by decide) ?_
  refine lv_iadd hx hb dM_L_law_2072 ?_
  refine lv_topi (fun y_12 ey_12 => ?_)
  obtain rfl : y_12 = 2 := ey_12.trans (by decide)
  refine va_sld hx hb hX hbl hbA hS (by unfold vp_in; decide) dM_L_law_2073 ?_
  refine lv_topi (fun y_13 ey_13 => ?_)
  obtain rfl : y_4 = y_13 := ey_4.trans ey_13.symm
  refine lv_aload_n hx hb dM_L_law_2074 rfl (lv_at hl 1 rfl) ?_
  refine lv_iload hx hb dM_L_law_2075 (lv_at hl 5 rfl) ?_
  refine lv_iconst (v := 3) hx hb dM_L_law_2077 (by decide) ?_
  refine lv_iadd hx hb dM_L_law_2078 ?_
  refine lv_topi (fun y_14 ey_14 => ?_)
  obtain rfl : y_14 = 3 := ey_14.trans (by decide)
  refine va_sld hx hb hX hbl hbA hS (by unfold vp_in; decide) dM_L_law_2079 ?_
  refine lv_topi (fun y_15 ey_15 => ?_)
  obtain rfl : y_6 = y_15 := ey_6.trans ey_15.symm
  have hFc := va_free (wc := [(m0, .inr (10, [.ref nw, z1, z2, z3, z4, z5, z6, z7, z8, z9, z10, z11, z12, .ref en, z14, z15, z16])), (nw, .inr (12, [t0, t1, .int 0, t3, t4, t5, t6, t7, t8, t9, t10, t11, t12, t13, t14, t15, t16, t17, t18, t19, t20, t21])), (en, .inr (11, [.int 1, e1, e2, e3, e4, e5, e6, e7, e8, e9, e10, e11, e12, e13, e14, e15, e16, e17, e18, e19, e20, e21, e22, e23, e24, e25, e26]))]) hD hS hA [0, 1, 2] rfl
  refine va_calli (va_runV (As := [.int y_2, .int y_4, .int y_6]) (rest := []) ⟨hx, hb, hml, hown, hbg⟩ (c_M_through l dC dI m0 y_2 y_4 y_6 nw z1 z2 z3 z4 z5 z6 z7 z8 z9 z10 z11 z12 en z14 z15 z16 t0 t1 t3 t4 t5 t6 t7 t8 t9 t10 t11 t12 t13 t14 t15 t16 t17 t18 t19 t20 t21 e1 e2 e3 e4 e5 e6 e7 e8 e9 e10 e11 e12 e13 e14 e15 e16 e17 e18 e19 e20 e21 e22 e23 e24 e25 e26 _ ) (cwV 3 hbg (gd_V (fun _ h => h) wd_2717 wd_2718 wd_2719 wd_12 (gd_wm (fun _ h => h) wd_2720)) rfl rfl rfl (by decide +kernel) ⟨Nat.le_of_ble_eq_true rfl, Nat.le_of_ble_eq_true rfl⟩) (nPreV [0, 1, 2] hP hD hK hN hS hA (by decide) rfl 0 rfl rfl) rfl rfl hl.1 rfl (lv_room (Nat.le_of_ble_eq_true rfl)) dM_L_law_2080 ⟨Nat.le_of_ble_eq_true rfl, Nat.le_of_ble_eq_true rfl⟩) hS (fun q _ h => hFc q h) hFc (fun r_16 u t H1 locs ht hvm hw hB hz1 hk1 hS => ?_)
  obtain ⟨rfl, rfl⟩ := hw
  obtain ⟨r0_18, r1_19, r2_20, r3_21, r4_22, r5_23, r6_24, r7_25, r8_26, r9_27, r10_28, r11_29, r12_30, r13_31, r14_32, r15_33, hP1, hD1⟩ := hB
  rw [ht] at hP1
  obtain ⟨hP, hD⟩ := va_join (wr := [(ou, .inl (dC 101, 1, .inr (.inl f0)))]) (w1 := [(m0, .inr (10, [r0_18, r1_19, r2_20, r3_21, r4_22, r5_23, r6_24, r7_25, r8_26, r9_27, r10_28, r11_29, r12_30, r13_31, r14_32, r15_33, .int 1]))]) hP hD [0, 1, 2] [3] rfl rfl (by decide) (by decide) hk1 hFc hP1 hD1
  generalize H1 = H at hP hS ⊢
  have hP : va_P (dC, dI) classes [(ou, .inl (dC 101, 1, .inr (.inl f0))), (m0, .inr (10, [r0_18, r1_19, r2_20, r3_21, r4_22, r5_23, r6_24, r7_25, r8_26, r9_27, r10_28, r11_29, r12_30, r13_31, r14_32, r15_33, .int 1]))] H := hP
  have hD : va_D A [(ou, .inl (dC 101, 1, .inr (.inl f0))), (m0, .inr (10, [r0_18, r1_19, r2_20, r3_21, r4_22, r5_23, r6_24, r7_25, r8_26, r9_27, r10_28, r11_29, r12_30, r13_31, r14_32, r15_33, .int 1]))] := hD
  refine W.widen (k := 405) (n := 120043) (Nat.le_of_ble_eq_true rfl) (Nat.le_of_ble_eq_true rfl) ?_
  refine lv_istore (lv' := [(6, .int 0), (5, .int 1), (0, .ref b), (1, .ref h0), (2, .ref m0), (3, .ref ou), (4, .int 0)]) hx hb dM_L_law_2083 hl (by decide) rfl (fun ls hl => ?_)
  refine lv_aload_n hx hb dM_L_law_2085 rfl (lv_at hl 4 rfl) ?_
  have hFc := va_free (wc := [(m0, .inr (10, [r0_18, r1_19, r2_20, r3_21, r4_22, r5_23, r6_24, r7_25, r8_26, r9_27, r10_28, r11_29, r12_30, r13_31, r14_32, r15_33, .int 1]))]) hD hS hA [1] rfl
  refine va_calli (va_runV (As := []) (rest := []) ⟨hx, hb, hml, hown, hbg⟩ (c_M_thrown l dC dI m0 r0_18 r1_19 r2_20 r3_21 r4_22 r5_23 r6_24 r7_25 r8_26 r9_27 r10_28 r11_29 r12_30 r13_31 r14_32 r15_33 1 _ ) (cwV 0 hbg (gd_V (fun _ h => h) wd_2190 wd_2191 wd_2192 wd_12 (gd_wm (fun _ h => h) wd_2193)) rfl rfl rfl (by decide +kernel) ⟨Nat.le_of_ble_eq_true rfl, Nat.le_of_ble_eq_true rfl⟩) (nPreV [1] hP hD hK hN hS hA (by decide) rfl 1 rfl rfl) rfl rfl hl.1 rfl (lv_room (Nat.le_of_ble_eq_true rfl)) dM_L_law_2086 ⟨Nat.le_of_ble_eq_true rfl, Nat.le_of_ble_eq_true rfl⟩) hS (fun q _ h => hFc q h) hFc (fun r_34 u t H1 locs ht hvm hw hB hz1 hk1 hS => ?_)
  obtain ⟨rfl, rfl⟩ := hw
  obtain ⟨r0_36, r1_37, r2_38, r3_39, r4_40, r5_41, r6_42, r7_43, r8_44, r9_45, r10_46, r11_47, r12_48, r13_49, r14_50, r15_51, hP1, hD1⟩ := hB
  rw [ht] at hP1
  obtain ⟨hP, hD⟩ := va_join (wr := [(ou, .inl (dC 101, 1, .inr (.inl f0)))]) (w1 := [(m0, .inr (10, [r0_36, r1_37, r2_38, r3_39, r4_40, r5_41, r6_42, r7_43, r8_44, r9_45, r10_46, r11_47, r12_48, r13_49, r14_50, r15_51, .int 1]))]) hP hD [1] [0] rfl rfl (by decide) (by decide) hk1 hFc hP1 hD1
  generalize H1 = H at hP hS ⊢
  have hP : va_P (dC, dI) classes [(ou, .inl (dC 101, 1, .inr (.inl f0))), (m0, .inr (10, [r0_36, r1_37, r2_38, r3_39, r4_40, r5_41, r6_42, r7_43, r8_44, r9_45, r10_46, r11_47, r12_48, r13_49, r14_50, r15_51, .int 1]))] H := hP
  have hD : va_D A [(ou, .inl (dC 101, 1, .inr (.inl f0))), (m0, .inr (10, [r0_36, r1_37, r2_38, r3_39, r4_40, r5_41, r6_42, r7_43, r8_44, r9_45, r10_46, r11_47, r12_48, r13_49, r14_50, r15_51, .int 1]))] := hD
  refine W.widen (k := 405) (n := 120043) (Nat.le_of_ble_eq_true rfl) (Nat.le_of_ble_eq_true rfl) ?_
  refine lv_iload hx hb dM_L_law_2089 (lv_at hl 1 rfl) ?_
  refine lv_icmp_eq (tgt := 2096) hx hb dM_L_law_2091 (by decide) (fun _ => ?_) (fun q => absurd (by decide) q)
  refine lv_iload hx hb dM_L_law_2096 (lv_at hl 1 rfl) ?_
  refine lv_if_ne (tgt := 2113) hx hb dM_L_law_2098 (by decide) (fun _ => ?_) (fun q => absurd q (by decide))
  refine lv_goto (tgt := 3410) hx hb dM_L_law_2113 (by decide) ?_
  refine W.widen (k := 600002) (n := 7302232) (Nat.le_of_ble_eq_true rfl) (Nat.le_of_ble_eq_true rfl) ?_
  exact hend _ _ _ hS (lv_sub hl [6, 2] rfl)
set_option maxHeartbeats 4000000 in
set_option maxRecDepth 100000 in
theorem lawc_26 {p : Program} {e : Env} {s : State} {m : MethodId} {below : List Frame} {meth : Method} {c : Code} {Z : State → Prop} (l : Launch) (hl9 : l.stackTraces = false) (dC : Nat → ClassId) (dI : Nat → Nat → Nat) {A : Nat → Prop} {b L : Nat} {xs : Nat → Int32} (hL : L = 8) (hx : p.tables.exec = Jvm.exec) (hb : c.code = cM_L_law) (hml : c.maxLocals = 8) (hown : s.vm.findClass "NoteDocumentLaw" = some m.cls) (hbg : ∀ w ∈ BIG, w.before #[Value.ref b] s = true) (hK : nK (dC, dI) s) (hN : nS A s s.heap) (hA : ∀ q : Nat, s.heap.size ≤ q → A q) (hX : va_X b L xs s s.heap) (hbl : b < s.heap.size) (hbA : ¬ A b) {H : Heap} {locs : List Loc} {ls : Array Slot} {h0 : Nat} {m0 : Nat} {ou : Nat} {st : Nat} {v1 : Value} {v2 : Value} {v3 : Value} {v4 : Value} {v5 : Value} {v6 : Value} {v7 : Value} {v8 : Value} {v9 : Value} {v10 : Value} {w3 : Value} {w4 : Value} {w5 : Value} {w6 : Value} {w7 : Value} {w8 : Value} {w9 : Value} {w10 : Value} {w11 : Value} {w12 : Value} {w13 : Value} {w14 : Value} {w15 : Value} {w16 : Value} {w17 : Value} {w18 : Value} {w19 : Value} {f0 : Nat → Int64} {nw : Nat} {z1 : Value} {z2 : Value} {z3 : Value} {z4 : Value} {z5 : Value} {z6 : Value} {z7 : Value} {z8 : Value} {z9 : Value} {z10 : Value} {z11 : Value} {z12 : Value} {en : Nat} {z14 : Value} {z15 : Value} {z16 : Value} {t0 : Value} {t1 : Value} {t3 : Value} {t4 : Value} {t5 : Value} {t6 : Value} {t7 : Value} {t8 : Value} {t9 : Value} {t10 : Value} {t11 : Value} {t12 : Value} {t13 : Value} {t14 : Value} {t15 : Value} {t16 : Value} {t17 : Value} {t18 : Value} {t19 : Value} {t20 : Value} {t21 : Value} {e1 : Value} {e2 : Value} {e3 : Value} {e4 : Value} {e5 : Value} {e6 : Value} {e7 : Value} {e8 : Value} {e9 : Value} {e10 : Value} {e11 : Value} {e12 : Value} {e13 : Value} {e14 : Value} {e15 : Value} {e16 : Value} {e17 : Value} {e18 : Value} {e19 : Value} {e20 : Value} {e21 : Value} {e22 : Value} {e23 : Value} {e24 : Value} {e25 : Value} {e26 : Value} (hP : va_P (dC, dI) classes [(h0, .inr (0, [.ref st, v1, v2, v3, v4, v5, v6, v7, v8, v9, v10])), (st, .inr (8, [.int 0, .int 0, .int 0, w3, w4, w5, w6, w7, w8, w9, w10, w11, w12, w13, w14, w15, w16, w17, w18, w19])), (ou, .inl (dC 101, 1, .inr (.inl f0))), (m0, .inr (10, [.ref nw, z1, z2, z3, z4, z5, z6, z7, z8, z9, z10, z11, z12, .ref en, z14, z15, z16])), (nw, .inr (12, [t0, t1, .int 0, t3, t4, t5, t6, t7, t8, t9, t10, t11, t12, t13, t14, t15, t16, t17, t18, t19, t20, t21])), (en, .inr (11, [.int 1, e1, e2, e3, e4, e5, e6, e7, e8, e9, e10, e11, e12, e13, e14, e15, e16, e17, e18, e19, e20, e21, e22, e23, e24, e25, e26]))] H) (hD : va_D A [(h0, .inr (0, [.ref st, v1, v2, v3, v4, v5, v6, v7, v8, v9, v10])), (st, .inr (8, [.int 0, .int 0, .int 0, w3, w4, w5, w6, w7, w8, w9, w10, w11, w12, w13, w14, w15, w16, w17, w18, w19])), (ou, .inl (dC 101, 1, .inr (.inl f0))), (m0, .inr (10, [.ref nw, z1, z2, z3, z4, z5, z6, z7, z8, z9, z10, z11, z12, .ref en, z14, z15, z16])), (nw, .inr (12, [t0, t1, .int 0, t3, t4, t5, t6, t7, t8, t9, t10, t11, t12, t13, t14, t15, t16, t17, t18, t19, t20, t21])), (en, .inr (11, [.int 1, e1, e2, e3, e4, e5, e6, e7, e8, e9, e10, e11, e12, e13, e14, e15, e16, e17, e18, e19, e20, e21, e22, e23, e24, e25, e26]))]) (hS : va_S A s.heap H locs) (hl : lv_has ls 8 [(0, .ref b), (1, .ref h0), (2, .ref m0), (3, .ref ou), (4, .int 0)]) (hend : ∀ (H : Heap) (locs : List Loc) (ls : Array Slot), va_S A s.heap H locs → lv_has ls 8 [(4, .int 0), (0, .ref b)] → W p l e room_1 s m #[Value.ref b] below meth c H locs 600002 7302232 Z (F0 m 3410 ls [])) : W p l e room_1 s m #[Value.ref b] below meth c H locs 403 120029 Z (F0 m 2116 ls []) := by
  subst hL
  refine lv_aload_n hx hb dM_L_law_2116 rfl (lv_at hl 1 rfl) ?_
  refine lv_aload_n hx hb dM_L_law_2117 rfl (lv_at hl 0 rfl) ?_
  refine lv_iload hx hb dM_L_law_2118 (lv_at hl 4 rfl) ?_
  refine lv_iconst (v := 1) hx hb dM_L_law_2120 (by decide) ?_
  refine lv_iadd hx hb dM_L_law_2121 ?_
  refine lv_topi (fun y_1 ey_1 => ?_)
  obtain rfl : y_1 = 1 := ey_1.trans (by decide)
  refine va_sld hx hb hX hbl hbA hS (by unfold vp_in; decide) dM_L_law_2122 ?_
  refine lv_topi (fun y_2 ey_2 => ?_)
  refine lv_aload_n hx hb dM_L_law_2123 rfl (lv_at hl 0 rfl) ?_
  refine lv_iload hx hb dM_L_law_2124 (lv_at hl 4 rfl) ?_
  refine lv_iconst (v := 2) hx hb dM_L_law_2126 (by decide) ?_
  refine lv_iadd hx hb dM_L_law_2127 ?_
  refine lv_topi (fun y_3 ey_3 => ?_)
  obtain rfl : y_3 = 2 := ey_3.trans (by decide)
  refine va_sld hx hb hX hbl hbA hS (by unfold vp_in; decide) dM_L_law_2128 ?_
  refine lv_topi (fun y_4 ey_4 => ?_)
  refine lv_aload_n hx hb dM_L_law_2129 rfl (lv_at hl 0 rfl) ?_
  refine lv_iload hx hb dM_L_law_2130 (lv_at hl 4 rfl) ?_
  refine lv_iconst (v := 3) hx hb dM_L_law_2132 (by decide) ?_
  refine lv_iadd hx hb dM_L_law_2133 ?_
  refine lv_topi (fun y_5 ey_5 => ?_)
  obtain rfl : y_5 = 3 := ey_5.trans (by decide)
  refine va_sld hx hb hX hbl hbA hS (by unfold vp_in; decide) dM_L_law_2134 ?_
  refine lv_topi (fun y_6 ey_6 => ?_)
  refine lv_aload_n hx hb dM_L_law_2135 rfl (lv_at hl 3 rfl) ?_
  have hFc := va_free (wc := [(h0, .inr (0, [.ref st, v1, v2, v3, v4, v5, v6, v7, v8, v9, v10])), (st, .inr (8, [.int 0, .int 0, .int 0, w3, w4, w5, w6, w7, w8, w9, w10, w11, w12, w13, w14, w15, w16, w17, w18, w19])), (ou, .inl (dC 101, 1, .inr (.inl f0)))]) hD hS hA [0, 1, 2] rfl
  refine va_calli (vx_runSW (As := [.ref h0, .int y_2, .int y_4, .int y_6, .ref ou]) (rest := []) ⟨hx, hb, hml, hown, hbg⟩ (c_L_cause l hl9 dC dI h0 y_2 y_4 y_6 ou st v1 v2 v3 v4 v5 v6 v7 v8 v9 v10 w3 w4 w5 w6 w7 w8 w9 w10 w11 w12 w13 w14 w15 w16 w17 w18 w19 f0 _ ) (vx_cwSW 5 hbg (gd_S (fun _ h => h) wd_1439 wd_1440 wd_0 (gd_wmW (fun _ h => h) wd_1441)) rfl rfl rfl (by decide +kernel) ⟨Nat.le_of_ble_eq_true rfl, Nat.le_of_ble_eq_true rfl⟩) (nPreS [0, 1, 2] hP hD hK hN hS hA (by decide) rfl) rfl rfl hl.1 rfl (lv_room (Nat.le_of_ble_eq_true rfl)) dM_L_law_2136 ⟨Nat.le_of_ble_eq_true rfl, Nat.le_of_ble_eq_true rfl⟩) hS (fun q _ h => hFc q h) hFc (fun r_7 u t H1 locs ht hvm hw hB hz1 hk1 hS => ?_)
  obtain ⟨rfl, hu_9⟩ := hw
  obtain rfl := hu_9.symm
  obtain ⟨hP1, hD1⟩ := hB
  rw [ht] at hP1
  obtain ⟨hP, hD⟩ := va_join (wr := [(m0, .inr (10, [.ref nw, z1, z2, z3, z4, z5, z6, z7, z8, z9, z10, z11, z12, .ref en, z14, z15, z16])), (nw, .inr (12, [t0, t1, .int 0, t3, t4, t5, t6, t7, t8, t9, t10, t11, t12, t13, t14, t15, t16, t17, t18, t19, t20, t21])), (en, .inr (11, [.int 1, e1, e2, e3, e4, e5, e6, e7, e8, e9, e10, e11, e12, e13, e14, e15, e16, e17, e18, e19, e20, e21, e22, e23, e24, e25, e26]))]) (w1 := [(ou, .inl (dC 101, 1, .inr (.inl f0)))]) hP hD [0, 1, 2] [3, 4, 5] rfl rfl (by decide) (by decide) hk1 hFc hP1 hD1
  generalize H1 = H at hP hS ⊢
  have hP : va_P (dC, dI) classes [(m0, .inr (10, [.ref nw, z1, z2, z3, z4, z5, z6, z7, z8, z9, z10, z11, z12, .ref en, z14, z15, z16])), (nw, .inr (12, [t0, t1, .int 0, t3, t4, t5, t6, t7, t8, t9, t10, t11, t12, t13, t14, t15, t16, t17, t18, t19, t20, t21])), (en, .inr (11, [.int 1, e1, e2, e3, e4, e5, e6, e7, e8, e9, e10, e11, e12, e13, e14, e15, e16, e17, e18, e19, e20, e21, e22, e23, e24, e25, e26])), (ou, .inl (dC 101, 1, .inr (.inl f0)))] H := hP
  have hD : va_D A [(m0, .inr (10, [.ref nw, z1, z2, z3, z4, z5, z6, z7, z8, z9, z10, z11, z12, .ref en, z14, z15, z16])), (nw, .inr (12, [t0, t1, .int 0, t3, t4, t5, t6, t7, t8, t9, t10, t11, t12, t13, t14, t15, t16, t17, t18, t19, t20, t21])), (en, .inr (11, [.int 1, e1, e2, e3, e4, e5, e6, e7, e8, e9, e10, e11, e12, e13, e14, e15, e16, e17, e18, e19, e20, e21, e22, e23, e24, e25, e26])), (ou, .inl (dC 101, 1, .inr (.inl f0)))] := hD
  refine W.widen (k := 404) (n := 120035) (Nat.le_of_ble_eq_true rfl) (Nat.le_of_ble_eq_true rfl) ?_
  refine lv_istore (lv' := [(5, .int 1), (0, .ref b), (1, .ref h0), (2, .ref m0), (3, .ref ou), (4, .int 0)]) hx hb dM_L_law_2139 hl (by decide) rfl (fun ls hl => ?_)
  refine lv_aload_n hx hb dM_L_law_2141 rfl (lv_at hl 3 rfl) ?_
  refine lv_aload_n hx hb dM_L_law_2142 rfl (lv_at hl 1 rfl) ?_
  refine lv_iload hx hb dM_L_law_2143 (lv_at hl 5 rfl) ?_
  refine lv_iconst (v := 1) hx hb dM_L_law_2145 (by decide) ?_
  refine lv_iadd hx hb dM_L_law_2146 ?_
  refine lv_topi (fun y_10 ey_10 => ?_)
  obtain rfl : y_10 = 1 := ey_10.trans (by decide)
  refine va_sld hx hb hX hbl hbA hS (by unfold vp_in; decide) dM_L_law_2147 ?_
  refine lv_topi (fun y_11 ey_11 => ?_)
  obtain rfl : y_2 = y_11 := ey_2.trans ey_11.symm
  refine lv_aload_n hx hb dM_L_law_2148 rfl (lv_at hl 1 rfl) ?_
  refine lv_iload hx hb dM_L_law_2149 (lv_at hl 5 rfl) ?_
  refine lv_iconst (v := 2) hx hb dM_L_law_2151 (by decide) ?_
  refine lv_iadd hx hb dM_L_law_2152 ?_
  refine lv_topi (fun y_12 ey_12 => ?_)
  obtain rfl : y_12 = 2 := ey_12.trans (by decide)
  refine va_sld hx hb hX hbl hbA hS (by unfold vp_in; decide) dM_L_law_2153 ?_
  refine lv_topi (fun y_13 ey_13 => ?_)
  obtain rfl : y_4 = y_13 := ey_4.trans ey_13.symm
  refine lv_aload_n hx hb dM_L_law_2154 rfl (lv_at hl 1 rfl) ?_
  refine lv_iload hx hb dM_L_law_2155 (lv_at hl 5 rfl) ?_
  refine lv_iconst (v := 3) hx hb dM_L_law_2157 (by decide) ?_
  refine lv_iadd hx hb dM_L_law_2158 ?_
  refine lv_topi (fun y_14 ey_14 => ?_)
  obtain rfl : y_14 = 3 := ey_14.trans (by decide)
  refine va_sld hx hb hX hbl hbA hS (by unfold vp_in; decide) dM_L_law_2159 ?_
  refine lv_topi (fun y_15 ey_15 => ?_)
  obtain rfl : y_6 = y_15 := ey_6.trans ey_15.symm
  have hFc := va_free (wc := [(m0, .inr (10, [.ref nw, z1, z2, z3, z4, z5, z6, z7, z8, z9, z10, z11, z12, .ref en, z14, z15, z16])), (nw, .inr (12, [t0, t1, .int 0, t3, t4, t5, t6, t7, t8, t9, t10, t11, t12, t13, t14, t15, t16, t17, t18, t19, t20, t21])), (en, .inr (11, [.int 1, e1, e2, e3, e4, e5, e6, e7, e8, e9, e10, e11, e12, e13, e14, e15, e16, e17, e18, e19, e20, e21, e22, e23, e24, e25, e26]))]) hD hS hA [0, 1, 2] rfl
  refine va_calli (va_runV (As := [.int y_2, .int y_4, .int y_6]) (rest := []) ⟨hx, hb, hml, hown, hbg⟩ (c_M_cause l dC dI m0 y_2 y_4 y_6 nw z1 z2 z3 z4 z5 z6 z7 z8 z9 z10 z11 z12 en z14 z15 z16 t0 t1 t3 t4 t5 t6 t7 t8 t9 t10 t11 t12 t13 t14 t15 t16 t17 t18 t19 t20 t21 e1 e2 e3 e4 e5 e6 e7 e8 e9 e10 e11 e12 e13 e14 e15 e16 e17 e18 e19 e20 e21 e22 e23 e24 e25 e26 _ ) (cwV 3 hbg (gd_V (fun _ h => h) wd_2721 wd_2722 wd_2723 wd_12 (gd_wm (fun _ h => h) wd_2724)) rfl rfl rfl (by decide +kernel) ⟨Nat.le_of_ble_eq_true rfl, Nat.le_of_ble_eq_true rfl⟩) (nPreV [0, 1, 2] hP hD hK hN hS hA (by decide) rfl 0 rfl rfl) rfl rfl hl.1 rfl (lv_room (Nat.le_of_ble_eq_true rfl)) dM_L_law_2160 ⟨Nat.le_of_ble_eq_true rfl, Nat.le_of_ble_eq_true rfl⟩) hS (fun q _ h => hFc q h) hFc (fun r_16 u t H1 locs ht hvm hw hB hz1 hk1 hS => ?_)
  obtain ⟨rfl, rfl⟩ := hw
  obtain ⟨r0_18, r1_19, r2_20, r3_21, r4_22, r5_23, r6_24, r7_25, r8_26, r9_27, r10_28, r11_29, r12_30, r13_31, r14_32, r15_33, hP1, hD1⟩ := hB
  rw [ht] at hP1
  obtain ⟨hP, hD⟩ := va_join (wr := [(ou, .inl (dC 101, 1, .inr (.inl f0)))]) (w1 := [(m0, .inr (10, [r0_18, r1_19, r2_20, r3_21, r4_22, r5_23, r6_24, r7_25, r8_26, r9_27, r10_28, r11_29, r12_30, r13_31, r14_32, r15_33, .int 1]))]) hP hD [0, 1, 2] [3] rfl rfl (by decide) (by decide) hk1 hFc hP1 hD1
  generalize H1 = H at hP hS ⊢
  have hP : va_P (dC, dI) classes [(ou, .inl (dC 101, 1, .inr (.inl f0))), (m0, .inr (10, [r0_18, r1_19, r2_20, r3_21, r4_22, r5_23, r6_24, r7_25, r8_26, r9_27, r10_28, r11_29, r12_30, r13_31, r14_32, r15_33, .int 1]))] H := hP
  have hD : va_D A [(ou, .inl (dC 101, 1, .inr (.inl f0))), (m0, .inr (10, [r0_18, r1_19, r2_20, r3_21, r4_22, r5_23, r6_24, r7_25, r8_26, r9_27, r10_28, r11_29, r12_30, r13_31, r14_32, r15_33, .int 1]))] := hD
  refine W.widen (k := 405) (n := 120043) (Nat.le_of_ble_eq_true rfl) (Nat.le_of_ble_eq_true rfl) ?_
  refine lv_istore (lv' := [(6, .int 0), (5, .int 1), (0, .ref b), (1, .ref h0), (2, .ref m0), (3, .ref ou), (4, .int 0)]) hx hb dM_L_law_2163 hl (by decide) rfl (fun ls hl => ?_)
  refine lv_aload_n hx hb dM_L_law_2165 rfl (lv_at hl 4 rfl) ?_
  have hFc := va_free (wc := [(m0, .inr (10, [r0_18, r1_19, r2_20, r3_21, r4_22, r5_23, r6_24, r7_25, r8_26, r9_27, r10_28, r11_29, r12_30, r13_31, r14_32, r15_33, .int 1]))]) hD hS hA [1] rfl
  refine va_calli (va_runV (As := []) (rest := []) ⟨hx, hb, hml, hown, hbg⟩ (c_M_thrown l dC dI m0 r0_18 r1_19 r2_20 r3_21 r4_22 r5_23 r6_24 r7_25 r8_26 r9_27 r10_28 r11_29 r12_30 r13_31 r14_32 r15_33 1 _ ) (cwV 0 hbg (gd_V (fun _ h => h) wd_2190 wd_2191 wd_2192 wd_12 (gd_wm (fun _ h => h) wd_2193)) rfl rfl rfl (by decide +kernel) ⟨Nat.le_of_ble_eq_true rfl, Nat.le_of_ble_eq_true rfl⟩) (nPreV [1] hP hD hK hN hS hA (by decide) rfl 1 rfl rfl) rfl rfl hl.1 rfl (lv_room (Nat.le_of_ble_eq_true rfl)) dM_L_law_2166 ⟨Nat.le_of_ble_eq_true rfl, Nat.le_of_ble_eq_true rfl⟩) hS (fun q _ h => hFc q h) hFc (fun r_34 u t H1 locs ht hvm hw hB hz1 hk1 hS => ?_)
  obtain ⟨rfl, rfl⟩ := hw
  obtain ⟨r0_36, r1_37, r2_38, r3_39, r4_40, r5_41, r6_42, r7_43, r8_44, r9_45, r10_46, r11_47, r12_48, r13_49, r14_50, r15_51, hP1, hD1⟩ := hB
  rw [ht] at hP1
  obtain ⟨hP, hD⟩ := va_join (wr := [(ou, .inl (dC 101, 1, .inr (.inl f0)))]) (w1 := [(m0, .inr (10, [r0_36, r1_37, r2_38, r3_39, r4_40, r5_41, r6_42, r7_43, r8_44, r9_45, r10_46, r11_47, r12_48, r13_49, r14_50, r15_51, .int 1]))]) hP hD [1] [0] rfl rfl (by decide) (by decide) hk1 hFc hP1 hD1
  generalize H1 = H at hP hS ⊢
  have hP : va_P (dC, dI) classes [(ou, .inl (dC 101, 1, .inr (.inl f0))), (m0, .inr (10, [r0_36, r1_37, r2_38, r3_39, r4_40, r5_41, r6_42, r7_43, r8_44, r9_45, r10_46, r11_47, r12_48, r13_49, r14_50, r15_51, .int 1]))] H := hP
  have hD : va_D A [(ou, .inl (dC 101, 1, .inr (.inl f0))), (m0, .inr (10, [r0_36, r1_37, r2_38, r3_39, r4_40, r5_41, r6_42, r7_43, r8_44, r9_45, r10_46, r11_47, r12_48, r13_49, r14_50, r15_51, .int 1]))] := hD
  refine W.widen (k := 405) (n := 120043) (Nat.le_of_ble_eq_true rfl) (Nat.le_of_ble_eq_true rfl) ?_
  refine lv_iload hx hb dM_L_law_2169 (lv_at hl 1 rfl) ?_
  refine lv_icmp_eq (tgt := 2176) hx hb dM_L_law_2171 (by decide) (fun _ => ?_) (fun q => absurd (by decide) q)
  refine lv_iload hx hb dM_L_law_2176 (lv_at hl 1 rfl) ?_
  refine lv_if_ne (tgt := 2193) hx hb dM_L_law_2178 (by decide) (fun _ => ?_) (fun q => absurd q (by decide))
  refine lv_goto (tgt := 3410) hx hb dM_L_law_2193 (by decide) ?_
  refine W.widen (k := 600002) (n := 7302232) (Nat.le_of_ble_eq_true rfl) (Nat.le_of_ble_eq_true rfl) ?_
  exact hend _ _ _ hS (lv_sub hl [6, 2] rfl)
set_option maxHeartbeats 4000000 in
set_option maxRecDepth 100000 in
theorem lawc_27 {p : Program} {e : Env} {s : State} {m : MethodId} {below : List Frame} {meth : Method} {c : Code} {Z : State → Prop} (l : Launch) (hl9 : l.stackTraces = false) (dC : Nat → ClassId) (dI : Nat → Nat → Nat) {A : Nat → Prop} {b L : Nat} {xs : Nat → Int32} (hL : L = 8) (hx : p.tables.exec = Jvm.exec) (hb : c.code = cM_L_law) (hml : c.maxLocals = 8) (hown : s.vm.findClass "NoteDocumentLaw" = some m.cls) (hbg : ∀ w ∈ BIG, w.before #[Value.ref b] s = true) (hK : nK (dC, dI) s) (hN : nS A s s.heap) (hA : ∀ q : Nat, s.heap.size ≤ q → A q) (hX : va_X b L xs s s.heap) (hbl : b < s.heap.size) (hbA : ¬ A b) {H : Heap} {locs : List Loc} {ls : Array Slot} {h0 : Nat} {m0 : Nat} {ou : Nat} {st : Nat} {v1 : Value} {v2 : Value} {v3 : Value} {v4 : Value} {v5 : Value} {v6 : Value} {v7 : Value} {v8 : Value} {v9 : Value} {v10 : Value} {w3 : Value} {w4 : Value} {w5 : Value} {w6 : Value} {w7 : Value} {w8 : Value} {w9 : Value} {w10 : Value} {w11 : Value} {w12 : Value} {w13 : Value} {w14 : Value} {w15 : Value} {w16 : Value} {w17 : Value} {w18 : Value} {w19 : Value} {f0 : Nat → Int64} {nw : Nat} {z1 : Value} {z2 : Value} {z3 : Value} {z4 : Value} {z5 : Value} {z6 : Value} {z7 : Value} {z8 : Value} {z9 : Value} {z10 : Value} {z11 : Value} {z12 : Value} {z13 : Value} {z14 : Value} {z15 : Value} {z16 : Value} {t0 : Value} {t1 : Value} {t3 : Value} {t4 : Value} {t5 : Value} {t6 : Value} {t7 : Value} {t8 : Value} {t9 : Value} {t10 : Value} {t12 : Value} {t13 : Value} {t14 : Value} {t15 : Value} {t16 : Value} {t17 : Value} {t18 : Value} {t20 : Value} {t21 : Value} (hP : va_P (dC, dI) classes [(h0, .inr (0, [.ref st, v1, v2, v3, v4, v5, v6, v7, v8, v9, v10])), (st, .inr (8, [.int 0, .int 0, .int 0, w3, w4, w5, w6, w7, w8, w9, w10, w11, w12, w13, w14, w15, w16, w17, w18, w19])), (ou, .inl (dC 101, 1, .inr (.inl f0))), (m0, .inr (10, [.ref nw, z1, z2, z3, z4, z5, z6, z7, z8, z9, z10, z11, z12, z13, z14, z15, z16])), (nw, .inr (12, [t0, t1, .int 0, t3, t4, t5, t6, t7, t8, t9, t10, .int 0, t12, t13, t14, t15, t16, t17, t18, .int 0, t20, t21]))] H) (hD : va_D A [(h0, .inr (0, [.ref st, v1, v2, v3, v4, v5, v6, v7, v8, v9, v10])), (st, .inr (8, [.int 0, .int 0, .int 0, w3, w4, w5, w6, w7, w8, w9, w10, w11, w12, w13, w14, w15, w16, w17, w18, w19])), (ou, .inl (dC 101, 1, .inr (.inl f0))), (m0, .inr (10, [.ref nw, z1, z2, z3, z4, z5, z6, z7, z8, z9, z10, z11, z12, z13, z14, z15, z16])), (nw, .inr (12, [t0, t1, .int 0, t3, t4, t5, t6, t7, t8, t9, t10, .int 0, t12, t13, t14, t15, t16, t17, t18, .int 0, t20, t21]))]) (hS : va_S A s.heap H locs) (hl : lv_has ls 8 [(0, .ref b), (1, .ref h0), (2, .ref m0), (3, .ref ou), (4, .int 0)]) (hend : ∀ (H : Heap) (locs : List Loc) (ls : Array Slot), va_S A s.heap H locs → lv_has ls 8 [(4, .int 0), (0, .ref b)] → W p l e room_1 s m #[Value.ref b] below meth c H locs 600002 7302232 Z (F0 m 3410 ls [])) : W p l e room_1 s m #[Value.ref b] below meth c H locs 403 120029 Z (F0 m 2196 ls []) := by
  subst hL
  refine lv_aload_n hx hb dM_L_law_2196 rfl (lv_at hl 1 rfl) ?_
  refine lv_aload_n hx hb dM_L_law_2197 rfl (lv_at hl 0 rfl) ?_
  refine lv_iload hx hb dM_L_law_2198 (lv_at hl 4 rfl) ?_
  refine lv_iconst (v := 1) hx hb dM_L_law_2200 (by decide) ?_
  refine lv_iadd hx hb dM_L_law_2201 ?_
  refine lv_topi (fun y_1 ey_1 => ?_)
  obtain rfl : y_1 = 1 := ey_1.trans (by decide)
  refine va_sld hx hb hX hbl hbA hS (by unfold vp_in; decide) dM_L_law_2202 ?_
  refine lv_topi (fun y_2 ey_2 => ?_)
  refine lv_aload_n hx hb dM_L_law_2203 rfl (lv_at hl 0 rfl) ?_
  refine lv_iload hx hb dM_L_law_2204 (lv_at hl 4 rfl) ?_
  refine lv_iconst (v := 2) hx hb dM_L_law_2206 (by decide) ?_
  refine lv_iadd hx hb dM_L_law_2207 ?_
  refine lv_topi (fun y_3 ey_3 => ?_)
  obtain rfl : y_3 = 2 := ey_3.trans (by decide)
  refine va_sld hx hb hX hbl hbA hS (by unfold vp_in; decide) dM_L_law_2208 ?_
  refine lv_topi (fun y_4 ey_4 => ?_)
  refine lv_aload_n hx hb dM_L_law_2209 rfl (lv_at hl 0 rfl) ?_
  refine lv_iload hx hb dM_L_law_2210 (lv_at hl 4 rfl) ?_
  refine lv_iconst (v := 3) hx hb dM_L_law_2212 (by decide) ?_
  refine lv_iadd hx hb dM_L_law_2213 ?_
  refine lv_topi (fun y_5 ey_5 => ?_)
  obtain rfl : y_5 = 3 := ey_5.trans (by decide)
  refine va_sld hx hb hX hbl hbA hS (by unfold vp_in; decide) dM_L_law_2214 ?_
  refine lv_topi (fun y_6 ey_6 => ?_)
  refine lv_aload_n hx hb dM_L_law_2215 rfl (lv_at hl 3 rfl) ?_
  have hFc := va_free (wc := [(h0, .inr (0, [.ref st, v1, v2, v3, v4, v5, v6, v7, v8, v9, v10])), (st, .inr (8, [.int 0, .int 0, .int 0, w3, w4, w5, w6, w7, w8, w9, w10, w11, w12, w13, w14, w15, w16, w17, w18, w19])), (ou, .inl (dC 101, 1, .inr (.inl f0)))]) hD hS hA [0, 1, 2] rfl
  refine va_calli (vx_runSW (As := [.ref h0, .int y_2, .int y_4, .int y_6, .ref ou]) (rest := []) ⟨hx, hb, hml, hown, hbg⟩ (c_L_kindFromNothing l hl9 dC dI h0 y_2 y_4 y_6 ou st v1 v2 v3 v4 v5 v6 v7 v8 v9 v10 w3 w4 w5 w6 w7 w8 w9 w10 w11 w12 w13 w14 w15 w16 w17 w18 w19 f0 _ ) (vx_cwSW 5 hbg (gd_S (fun _ h => h) wd_1454 wd_1455 wd_0 (gd_wmW (fun _ h => h) wd_1456)) rfl rfl rfl (by decide +kernel) ⟨Nat.le_of_ble_eq_true rfl, Nat.le_of_ble_eq_true rfl⟩) (nPreS [0, 1, 2] hP hD hK hN hS hA (by decide) rfl) rfl rfl hl.1 rfl (lv_room (Nat.le_of_ble_eq_true rfl)) dM_L_law_2216 ⟨Nat.le_of_ble_eq_true rfl, Nat.le_of_ble_eq_true rfl⟩) hS (fun q _ h => hFc q h) hFc (fun r_7 u t H1 locs ht hvm hw hB hz1 hk1 hS => ?_)
  obtain ⟨rfl, hu_9⟩ := hw
  obtain rfl := hu_9.symm
  obtain ⟨hP1, hD1⟩ := hB
  rw [ht] at hP1
  obtain ⟨hP, hD⟩ := va_join (wr := [(m0, .inr (10, [.ref nw, z1, z2, z3, z4, z5, z6, z7, z8, z9, z10, z11, z12, z13, z14, z15, z16])), (nw, .inr (12, [t0, t1, .int 0, t3, t4, t5, t6, t7, t8, t9, t10, .int 0, t12, t13, t14, t15, t16, t17, t18, .int 0, t20, t21]))]) (w1 := [(ou, .inl (dC 101, 1, .inr (.inl f0)))]) hP hD [0, 1, 2] [3, 4] rfl rfl (by decide) (by decide) hk1 hFc hP1 hD1
  generalize H1 = H at hP hS ⊢
  have hP : va_P (dC, dI) classes [(m0, .inr (10, [.ref nw, z1, z2, z3, z4, z5, z6, z7, z8, z9, z10, z11, z12, z13, z14, z15, z16])), (nw, .inr (12, [t0, t1, .int 0, t3, t4, t5, t6, t7, t8, t9, t10, .int 0, t12, t13, t14, t15, t16, t17, t18, .int 0, t20, t21])), (ou, .inl (dC 101, 1, .inr (.inl f0)))] H := hP
  have hD : va_D A [(m0, .inr (10, [.ref nw, z1, z2, z3, z4, z5, z6, z7, z8, z9, z10, z11, z12, z13, z14, z15, z16])), (nw, .inr (12, [t0, t1, .int 0, t3, t4, t5, t6, t7, t8, t9, t10, .int 0, t12, t13, t14, t15, t16, t17, t18, .int 0, t20, t21])), (ou, .inl (dC 101, 1, .inr (.inl f0)))] := hD
  refine W.widen (k := 404) (n := 120035) (Nat.le_of_ble_eq_true rfl) (Nat.le_of_ble_eq_true rfl) ?_
  refine lv_istore (lv' := [(5, .int 1), (0, .ref b), (1, .ref h0), (2, .ref m0), (3, .ref ou), (4, .int 0)]) hx hb dM_L_law_2219 hl (by decide) rfl (fun ls hl => ?_)
  refine lv_aload_n hx hb dM_L_law_2221 rfl (lv_at hl 3 rfl) ?_
  refine lv_aload_n hx hb dM_L_law_2222 rfl (lv_at hl 1 rfl) ?_
  refine lv_iload hx hb dM_L_law_2223 (lv_at hl 5 rfl) ?_
  refine lv_iconst (v := 1) hx hb dM_L_law_2225 (by decide) ?_
  refine lv_iadd hx hb dM_L_law_2226 ?_
  refine lv_topi (fun y_10 ey_10 => ?_)
  obtain rfl : y_10 = 1 := ey_10.trans (by decide)
  refine va_sld hx hb hX hbl hbA hS (by unfold vp_in; decide) dM_L_law_2227 ?_
  refine lv_topi (fun y_11 ey_11 => ?_)
  obtain rfl : y_2 = y_11 := ey_2.trans ey_11.symm
  refine lv_aload_n hx hb dM_L_law_2228 rfl (lv_at hl 1 rfl) ?_
  refine lv_iload hx hb dM_L_law_2229 (lv_at hl 5 rfl) ?_
  refine lv_iconst (v := 2) hx hb dM_L_law_2231 (by decide) ?_
  refine lv_iadd hx hb dM_L_law_2232 ?_
  refine lv_topi (fun y_12 ey_12 => ?_)
  obtain rfl : y_12 = 2 := ey_12.trans (by decide)
  refine va_sld hx hb hX hbl hbA hS (by unfold vp_in; decide) dM_L_law_2233 ?_
  refine lv_topi (fun y_13 ey_13 => ?_)
  obtain rfl : y_4 = y_13 := ey_4.trans ey_13.symm
  refine lv_aload_n hx hb dM_L_law_2234 rfl (lv_at hl 1 rfl) ?_
  refine lv_iload hx hb dM_L_law_2235 (lv_at hl 5 rfl) ?_
  refine lv_iconst (v := 3) hx hb dM_L_law_2237 (by decide) ?_
  refine lv_iadd hx hb dM_L_law_2238 ?_
  refine lv_topi (fun y_14 ey_14 => ?_)
  obtain rfl : y_14 = 3 := ey_14.trans (by decide)
  refine va_sld hx hb hX hbl hbA hS (by unfold vp_in; decide) dM_L_law_2239 ?_
  refine lv_topi (fun y_15 ey_15 => ?_)
  obtain rfl : y_6 = y_15 := ey_6.trans ey_15.symm
  have hFc := va_free (wc := [(m0, .inr (10, [.ref nw, z1, z2, z3, z4, z5, z6, z7, z8, z9, z10, z11, z12, z13, z14, z15, z16])), (nw, .inr (12, [t0, t1, .int 0, t3, t4, t5, t6, t7, t8, t9, t10, .int 0, t12, t13, t14, t15, t16, t17, t18, .int 0, t20, t21]))]) hD hS hA [0, 1] rfl
  refine va_calli (va_runV (As := [.int y_2, .int y_4, .int y_6]) (rest := []) ⟨hx, hb, hml, hown, hbg⟩ (c_M_kindFromNothing l dC dI m0 y_2 y_4 y_6 nw z1 z2 z3 z4 z5 z6 z7 z8 z9 z10 z11 z12 z13 z14 z15 z16 t0 t1 t3 t4 t5 t6 t7 t8 t9 t10 t12 t13 t14 t15 t16 t17 t18 t20 t21 _ ) (cwV 3 hbg (gd_V (fun _ h => h) wd_2725 wd_2726 wd_2727 wd_12 (gd_wm (fun _ h => h) wd_2728)) rfl rfl rfl (by decide +kernel) ⟨Nat.le_of_ble_eq_true rfl, Nat.le_of_ble_eq_true rfl⟩) (nPreV [0, 1] hP hD hK hN hS hA (by decide) rfl 0 rfl rfl) rfl rfl hl.1 rfl (lv_room (Nat.le_of_ble_eq_true rfl)) dM_L_law_2240 ⟨Nat.le_of_ble_eq_true rfl, Nat.le_of_ble_eq_true rfl⟩) hS (fun q _ h => hFc q h) hFc (fun r_16 u t H1 locs ht hvm hw hB hz1 hk1 hS => ?_)
  obtain ⟨rfl, rfl⟩ := hw
  obtain ⟨r0_18, r1_19, r2_20, r3_21, r4_22, r5_23, r6_24, r7_25, r8_26, r9_27, r10_28, r11_29, r12_30, r13_31, r14_32, r15_33, hP1, hD1⟩ := hB
  rw [ht] at hP1
  obtain ⟨hP, hD⟩ := va_join (wr := [(ou, .inl (dC 101, 1, .inr (.inl f0)))]) (w1 := [(m0, .inr (10, [r0_18, r1_19, r2_20, r3_21, r4_22, r5_23, r6_24, r7_25, r8_26, r9_27, r10_28, r11_29, r12_30, r13_31, r14_32, r15_33, .int 1]))]) hP hD [0, 1] [2] rfl rfl (by decide) (by decide) hk1 hFc hP1 hD1
  generalize H1 = H at hP hS ⊢
  have hP : va_P (dC, dI) classes [(ou, .inl (dC 101, 1, .inr (.inl f0))), (m0, .inr (10, [r0_18, r1_19, r2_20, r3_21, r4_22, r5_23, r6_24, r7_25, r8_26, r9_27, r10_28, r11_29, r12_30, r13_31, r14_32, r15_33, .int 1]))] H := hP
  have hD : va_D A [(ou, .inl (dC 101, 1, .inr (.inl f0))), (m0, .inr (10, [r0_18, r1_19, r2_20, r3_21, r4_22, r5_23, r6_24, r7_25, r8_26, r9_27, r10_28, r11_29, r12_30, r13_31, r14_32, r15_33, .int 1]))] := hD
  refine W.widen (k := 404) (n := 120035) (Nat.le_of_ble_eq_true rfl) (Nat.le_of_ble_eq_true rfl) ?_
  refine lv_istore (lv' := [(6, .int 0), (5, .int 1), (0, .ref b), (1, .ref h0), (2, .ref m0), (3, .ref ou), (4, .int 0)]) hx hb dM_L_law_2243 hl (by decide) rfl (fun ls hl => ?_)
  refine lv_aload_n hx hb dM_L_law_2245 rfl (lv_at hl 4 rfl) ?_
  have hFc := va_free (wc := [(m0, .inr (10, [r0_18, r1_19, r2_20, r3_21, r4_22, r5_23, r6_24, r7_25, r8_26, r9_27, r10_28, r11_29, r12_30, r13_31, r14_32, r15_33, .int 1]))]) hD hS hA [1] rfl
  refine va_calli (va_runV (As := []) (rest := []) ⟨hx, hb, hml, hown, hbg⟩ (c_M_thrown l dC dI m0 r0_18 r1_19 r2_20 r3_21 r4_22 r5_23 r6_24 r7_25 r8_26 r9_27 r10_28 r11_29 r12_30 r13_31 r14_32 r15_33 1 _ ) (cwV 0 hbg (gd_V (fun _ h => h) wd_2190 wd_2191 wd_2192 wd_12 (gd_wm (fun _ h => h) wd_2193)) rfl rfl rfl (by decide +kernel) ⟨Nat.le_of_ble_eq_true rfl, Nat.le_of_ble_eq_true rfl⟩) (nPreV [1] hP hD hK hN hS hA (by decide) rfl 1 rfl rfl) rfl rfl hl.1 rfl (lv_room (Nat.le_of_ble_eq_true rfl)) dM_L_law_2246 ⟨Nat.le_of_ble_eq_true rfl, Nat.le_of_ble_eq_true rfl⟩) hS (fun q _ h => hFc q h) hFc (fun r_34 u t H1 locs ht hvm hw hB hz1 hk1 hS => ?_)
  obtain ⟨rfl, rfl⟩ := hw
  obtain ⟨r0_36, r1_37, r2_38, r3_39, r4_40, r5_41, r6_42, r7_43, r8_44, r9_45, r10_46, r11_47, r12_48, r13_49, r14_50, r15_51, hP1, hD1⟩ := hB
  rw [ht] at hP1
  obtain ⟨hP, hD⟩ := va_join (wr := [(ou, .inl (dC 101, 1, .inr (.inl f0)))]) (w1 := [(m0, .inr (10, [r0_36, r1_37, r2_38, r3_39, r4_40, r5_41, r6_42, r7_43, r8_44, r9_45, r10_46, r11_47, r12_48, r13_49, r14_50, r15_51, .int 1]))]) hP hD [1] [0] rfl rfl (by decide) (by decide) hk1 hFc hP1 hD1
  generalize H1 = H at hP hS ⊢
  have hP : va_P (dC, dI) classes [(ou, .inl (dC 101, 1, .inr (.inl f0))), (m0, .inr (10, [r0_36, r1_37, r2_38, r3_39, r4_40, r5_41, r6_42, r7_43, r8_44, r9_45, r10_46, r11_47, r12_48, r13_49, r14_50, r15_51, .int 1]))] H := hP
  have hD : va_D A [(ou, .inl (dC 101, 1, .inr (.inl f0))), (m0, .inr (10, [r0_36, r1_37, r2_38, r3_39, r4_40, r5_41, r6_42, r7_43, r8_44, r9_45, r10_46, r11_47, r12_48, r13_49, r14_50, r15_51, .int 1]))] := hD
  refine W.widen (k := 404) (n := 120035) (Nat.le_of_ble_eq_true rfl) (Nat.le_of_ble_eq_true rfl) ?_
  refine lv_iload hx hb dM_L_law_2249 (lv_at hl 1 rfl) ?_
  refine lv_icmp_eq (tgt := 2256) hx hb dM_L_law_2251 (by decide) (fun _ => ?_) (fun q => absurd (by decide) q)
  refine lv_iload hx hb dM_L_law_2256 (lv_at hl 1 rfl) ?_
  refine lv_if_ne (tgt := 2273) hx hb dM_L_law_2258 (by decide) (fun _ => ?_) (fun q => absurd q (by decide))
  refine lv_goto (tgt := 3410) hx hb dM_L_law_2273 (by decide) ?_
  refine W.widen (k := 600002) (n := 7302232) (Nat.le_of_ble_eq_true rfl) (Nat.le_of_ble_eq_true rfl) ?_
  exact hend _ _ _ hS (lv_sub hl [6, 2] rfl)
set_option maxHeartbeats 4000000 in
set_option maxRecDepth 100000 in
theorem lawc_28 {p : Program} {e : Env} {s : State} {m : MethodId} {below : List Frame} {meth : Method} {c : Code} {Z : State → Prop} (l : Launch) (hl9 : l.stackTraces = false) (dC : Nat → ClassId) (dI : Nat → Nat → Nat) {A : Nat → Prop} {b L : Nat} {xs : Nat → Int32} (hL : L = 8) (hx : p.tables.exec = Jvm.exec) (hb : c.code = cM_L_law) (hml : c.maxLocals = 8) (hown : s.vm.findClass "NoteDocumentLaw" = some m.cls) (hbg : ∀ w ∈ BIG, w.before #[Value.ref b] s = true) (hK : nK (dC, dI) s) (hN : nS A s s.heap) (hA : ∀ q : Nat, s.heap.size ≤ q → A q) (hX : va_X b L xs s s.heap) (hbl : b < s.heap.size) (hbA : ¬ A b) {H : Heap} {locs : List Loc} {ls : Array Slot} {h0 : Nat} {m0 : Nat} {ou : Nat} {st : Nat} {v1 : Value} {v2 : Value} {v3 : Value} {v4 : Value} {v5 : Value} {v6 : Value} {v7 : Value} {v8 : Value} {v9 : Value} {v10 : Value} {w3 : Value} {w4 : Value} {w5 : Value} {w6 : Value} {w7 : Value} {w8 : Value} {w9 : Value} {w10 : Value} {w11 : Value} {w12 : Value} {w13 : Value} {w14 : Value} {w15 : Value} {w16 : Value} {w17 : Value} {w18 : Value} {w19 : Value} {f0 : Nat → Int64} {nw : Nat} {z1 : Value} {z2 : Value} {z3 : Value} {z4 : Value} {z5 : Value} {z6 : Value} {z7 : Value} {z8 : Value} {z9 : Value} {z10 : Value} {z11 : Value} {z12 : Value} {z13 : Value} {z14 : Value} {z15 : Value} {z16 : Value} {t0 : Value} {t1 : Value} {t3 : Value} {t4 : Value} {t5 : Value} {t6 : Value} {t7 : Value} {t8 : Value} {t9 : Value} {t10 : Value} {t12 : Value} {t13 : Value} {t14 : Value} {t15 : Value} {t16 : Value} {t17 : Value} {t18 : Value} {t20 : Value} {t21 : Value} (hP : va_P (dC, dI) classes [(h0, .inr (0, [.ref st, v1, v2, v3, v4, v5, v6, v7, v8, v9, v10])), (st, .inr (8, [.int 0, .int 0, .int 0, w3, w4, w5, w6, w7, w8, w9, w10, w11, w12, w13, w14, w15, w16, w17, w18, w19])), (ou, .inl (dC 101, 1, .inr (.inl f0))), (m0, .inr (10, [.ref nw, z1, z2, z3, z4, z5, z6, z7, z8, z9, z10, z11, z12, z13, z14, z15, z16])), (nw, .inr (12, [t0, t1, .int 0, t3, t4, t5, t6, t7, t8, t9, t10, .int 0, t12, t13, t14, t15, t16, t17, t18, .int 0, t20, t21]))] H) (hD : va_D A [(h0, .inr (0, [.ref st, v1, v2, v3, v4, v5, v6, v7, v8, v9, v10])), (st, .inr (8, [.int 0, .int 0, .int 0, w3, w4, w5, w6, w7, w8, w9, w10, w11, w12, w13, w14, w15, w16, w17, w18, w19])), (ou, .inl (dC 101, 1, .inr (.inl f0))), (m0, .inr (10, [.ref nw, z1, z2, z3, z4, z5, z6, z7, z8, z9, z10, z11, z12, z13, z14, z15, z16])), (nw, .inr (12, [t0, t1, .int 0, t3, t4, t5, t6, t7, t8, t9, t10, .int 0, t12, t13, t14, t15, t16, t17, t18, .int 0, t20, t21]))]) (hS : va_S A s.heap H locs) (hl : lv_has ls 8 [(0, .ref b), (1, .ref h0), (2, .ref m0), (3, .ref ou), (4, .int 0)]) (hend : ∀ (H : Heap) (locs : List Loc) (ls : Array Slot), va_S A s.heap H locs → lv_has ls 8 [(4, .int 0), (0, .ref b)] → W p l e room_1 s m #[Value.ref b] below meth c H locs 600002 7302232 Z (F0 m 3410 ls [])) : W p l e room_1 s m #[Value.ref b] below meth c H locs 403 120029 Z (F0 m 2276 ls []) := by
  subst hL
  refine lv_aload_n hx hb dM_L_law_2276 rfl (lv_at hl 1 rfl) ?_
  refine lv_aload_n hx hb dM_L_law_2277 rfl (lv_at hl 0 rfl) ?_
  refine lv_iload hx hb dM_L_law_2278 (lv_at hl 4 rfl) ?_
  refine lv_iconst (v := 1) hx hb dM_L_law_2280 (by decide) ?_
  refine lv_iadd hx hb dM_L_law_2281 ?_
  refine lv_topi (fun y_1 ey_1 => ?_)
  obtain rfl : y_1 = 1 := ey_1.trans (by decide)
  refine va_sld hx hb hX hbl hbA hS (by unfold vp_in; decide) dM_L_law_2282 ?_
  refine lv_topi (fun y_2 ey_2 => ?_)
  refine lv_aload_n hx hb dM_L_law_2283 rfl (lv_at hl 0 rfl) ?_
  refine lv_iload hx hb dM_L_law_2284 (lv_at hl 4 rfl) ?_
  refine lv_iconst (v := 2) hx hb dM_L_law_2286 (by decide) ?_
  refine lv_iadd hx hb dM_L_law_2287 ?_
  refine lv_topi (fun y_3 ey_3 => ?_)
  obtain rfl : y_3 = 2 := ey_3.trans (by decide)
  refine va_sld hx hb hX hbl hbA hS (by unfold vp_in; decide) dM_L_law_2288 ?_
  refine lv_topi (fun y_4 ey_4 => ?_)
  refine lv_aload_n hx hb dM_L_law_2289 rfl (lv_at hl 0 rfl) ?_
  refine lv_iload hx hb dM_L_law_2290 (lv_at hl 4 rfl) ?_
  refine lv_iconst (v := 3) hx hb dM_L_law_2292 (by decide) ?_
  refine lv_iadd hx hb dM_L_law_2293 ?_
  refine lv_topi (fun y_5 ey_5 => ?_)
  obtain rfl : y_5 = 3 := ey_5.trans (by decide)
  refine va_sld hx hb hX hbl hbA hS (by unfold vp_in; decide) dM_L_law_2294 ?_
  refine lv_topi (fun y_6 ey_6 => ?_)
  refine lv_aload_n hx hb dM_L_law_2295 rfl (lv_at hl 3 rfl) ?_
  have hFc := va_free (wc := [(h0, .inr (0, [.ref st, v1, v2, v3, v4, v5, v6, v7, v8, v9, v10])), (st, .inr (8, [.int 0, .int 0, .int 0, w3, w4, w5, w6, w7, w8, w9, w10, w11, w12, w13, w14, w15, w16, w17, w18, w19])), (ou, .inl (dC 101, 1, .inr (.inl f0)))]) hD hS hA [0, 1, 2] rfl
  refine va_calli (vx_runSW (As := [.ref h0, .int y_2, .int y_4, .int y_6, .ref ou]) (rest := []) ⟨hx, hb, hml, hown, hbg⟩ (c_L_valueFromNothing l hl9 dC dI h0 y_2 y_4 y_6 ou st v1 v2 v3 v4 v5 v6 v7 v8 v9 v10 w3 w4 w5 w6 w7 w8 w9 w10 w11 w12 w13 w14 w15 w16 w17 w18 w19 f0 _ ) (vx_cwSW 5 hbg (gd_S (fun _ h => h) wd_1461 wd_1462 wd_0 (gd_wmW (fun _ h => h) wd_1463)) rfl rfl rfl (by decide +kernel) ⟨Nat.le_of_ble_eq_true rfl, Nat.le_of_ble_eq_true rfl⟩) (nPreS [0, 1, 2] hP hD hK hN hS hA (by decide) rfl) rfl rfl hl.1 rfl (lv_room (Nat.le_of_ble_eq_true rfl)) dM_L_law_2296 ⟨Nat.le_of_ble_eq_true rfl, Nat.le_of_ble_eq_true rfl⟩) hS (fun q _ h => hFc q h) hFc (fun r_7 u t H1 locs ht hvm hw hB hz1 hk1 hS => ?_)
  obtain ⟨rfl, hu_9⟩ := hw
  obtain rfl := hu_9.symm
  obtain ⟨hP1, hD1⟩ := hB
  rw [ht] at hP1
  obtain ⟨hP, hD⟩ := va_join (wr := [(m0, .inr (10, [.ref nw, z1, z2, z3, z4, z5, z6, z7, z8, z9, z10, z11, z12, z13, z14, z15, z16])), (nw, .inr (12, [t0, t1, .int 0, t3, t4, t5, t6, t7, t8, t9, t10, .int 0, t12, t13, t14, t15, t16, t17, t18, .int 0, t20, t21]))]) (w1 := [(ou, .inl (dC 101, 1, .inr (.inl f0)))]) hP hD [0, 1, 2] [3, 4] rfl rfl (by decide) (by decide) hk1 hFc hP1 hD1
  generalize H1 = H at hP hS ⊢
  have hP : va_P (dC, dI) classes [(m0, .inr (10, [.ref nw, z1, z2, z3, z4, z5, z6, z7, z8, z9, z10, z11, z12, z13, z14, z15, z16])), (nw, .inr (12, [t0, t1, .int 0, t3, t4, t5, t6, t7, t8, t9, t10, .int 0, t12, t13, t14, t15, t16, t17, t18, .int 0, t20, t21])), (ou, .inl (dC 101, 1, .inr (.inl f0)))] H := hP
  have hD : va_D A [(m0, .inr (10, [.ref nw, z1, z2, z3, z4, z5, z6, z7, z8, z9, z10, z11, z12, z13, z14, z15, z16])), (nw, .inr (12, [t0, t1, .int 0, t3, t4, t5, t6, t7, t8, t9, t10, .int 0, t12, t13, t14, t15, t16, t17, t18, .int 0, t20, t21])), (ou, .inl (dC 101, 1, .inr (.inl f0)))] := hD
  refine W.widen (k := 404) (n := 120035) (Nat.le_of_ble_eq_true rfl) (Nat.le_of_ble_eq_true rfl) ?_
  refine lv_istore (lv' := [(5, .int 1), (0, .ref b), (1, .ref h0), (2, .ref m0), (3, .ref ou), (4, .int 0)]) hx hb dM_L_law_2299 hl (by decide) rfl (fun ls hl => ?_)
  refine lv_aload_n hx hb dM_L_law_2301 rfl (lv_at hl 3 rfl) ?_
  refine lv_aload_n hx hb dM_L_law_2302 rfl (lv_at hl 1 rfl) ?_
  refine lv_iload hx hb dM_L_law_2303 (lv_at hl 5 rfl) ?_
  refine lv_iconst (v := 1) hx hb dM_L_law_2305 (by decide) ?_
  refine lv_iadd hx hb dM_L_law_2306 ?_
  refine lv_topi (fun y_10 ey_10 => ?_)
  obtain rfl : y_10 = 1 := ey_10.trans (by decide)
  refine va_sld hx hb hX hbl hbA hS (by unfold vp_in; decide) dM_L_law_2307 ?_
  refine lv_topi (fun y_11 ey_11 => ?_)
  obtain rfl : y_2 = y_11 := ey_2.trans ey_11.symm
  refine lv_aload_n hx hb dM_L_law_2308 rfl (lv_at hl 1 rfl) ?_
  refine lv_iload hx hb dM_L_law_2309 (lv_at hl 5 rfl) ?_
  refine lv_iconst (v := 2) hx hb dM_L_law_2311 (by decide) ?_
  refine lv_iadd hx hb dM_L_law_2312 ?_
  refine lv_topi (fun y_12 ey_12 => ?_)
  obtain rfl : y_12 = 2 := ey_12.trans (by decide)
  refine va_sld hx hb hX hbl hbA hS (by unfold vp_in; decide) dM_L_law_2313 ?_
  refine lv_topi (fun y_13 ey_13 => ?_)
  obtain rfl : y_4 = y_13 := ey_4.trans ey_13.symm
  refine lv_aload_n hx hb dM_L_law_2314 rfl (lv_at hl 1 rfl) ?_
  refine lv_iload hx hb dM_L_law_2315 (lv_at hl 5 rfl) ?_
  refine lv_iconst (v := 3) hx hb dM_L_law_2317 (by decide) ?_
  refine lv_iadd hx hb dM_L_law_2318 ?_
  refine lv_topi (fun y_14 ey_14 => ?_)
  obtain rfl : y_14 = 3 := ey_14.trans (by decide)
  refine va_sld hx hb hX hbl hbA hS (by unfold vp_in; decide) dM_L_law_2319 ?_
  refine lv_topi (fun y_15 ey_15 => ?_)
  obtain rfl : y_6 = y_15 := ey_6.trans ey_15.symm
  have hFc := va_free (wc := [(m0, .inr (10, [.ref nw, z1, z2, z3, z4, z5, z6, z7, z8, z9, z10, z11, z12, z13, z14, z15, z16])), (nw, .inr (12, [t0, t1, .int 0, t3, t4, t5, t6, t7, t8, t9, t10, .int 0, t12, t13, t14, t15, t16, t17, t18, .int 0, t20, t21]))]) hD hS hA [0, 1] rfl
  refine va_calll (va_runV (As := [.int y_2, .int y_4, .int y_6]) (rest := []) ⟨hx, hb, hml, hown, hbg⟩ (c_M_valueFromNothing l dC dI m0 y_2 y_4 y_6 nw z1 z2 z3 z4 z5 z6 z7 z8 z9 z10 z11 z12 z13 z14 z15 z16 t0 t1 t3 t4 t5 t6 t7 t8 t9 t10 t12 t13 t14 t15 t16 t17 t18 t20 t21 _ ) (cwV 3 hbg (gd_V (fun _ h => h) wd_2738 wd_2739 wd_2740 wd_12 (gd_wm (fun _ h => h) wd_2741)) rfl rfl rfl (by decide +kernel) ⟨Nat.le_of_ble_eq_true rfl, Nat.le_of_ble_eq_true rfl⟩) (nPreV [0, 1] hP hD hK hN hS hA (by decide) rfl 0 rfl rfl) rfl rfl hl.1 rfl (lv_room (Nat.le_of_ble_eq_true rfl)) dM_L_law_2320 ⟨Nat.le_of_ble_eq_true rfl, Nat.le_of_ble_eq_true rfl⟩) hS (fun q _ h => hFc q h) hFc (fun r_16 u t H1 locs ht hvm hw hB hz1 hk1 hS => ?_)
  obtain ⟨rfl, rfl⟩ := hw
  obtain ⟨r0_18, r1_19, r2_20, r3_21, r4_22, r5_23, r6_24, r7_25, r8_26, r9_27, r10_28, r11_29, r12_30, r13_31, r14_32, r15_33, hP1, hD1⟩ := hB
  rw [ht] at hP1
  obtain ⟨hP, hD⟩ := va_join (wr := [(ou, .inl (dC 101, 1, .inr (.inl f0)))]) (w1 := [(m0, .inr (10, [r0_18, r1_19, r2_20, r3_21, r4_22, r5_23, r6_24, r7_25, r8_26, r9_27, r10_28, r11_29, r12_30, r13_31, r14_32, r15_33, .int 1]))]) hP hD [0, 1] [2] rfl rfl (by decide) (by decide) hk1 hFc hP1 hD1
  generalize H1 = H at hP hS ⊢
  have hP : va_P (dC, dI) classes [(ou, .inl (dC 101, 1, .inr (.inl f0))), (m0, .inr (10, [r0_18, r1_19, r2_20, r3_21, r4_22, r5_23, r6_24, r7_25, r8_26, r9_27, r10_28, r11_29, r12_30, r13_31, r14_32, r15_33, .int 1]))] H := hP
  have hD : va_D A [(ou, .inl (dC 101, 1, .inr (.inl f0))), (m0, .inr (10, [r0_18, r1_19, r2_20, r3_21, r4_22, r5_23, r6_24, r7_25, r8_26, r9_27, r10_28, r11_29, r12_30, r13_31, r14_32, r15_33, .int 1]))] := hD
  refine W.widen (k := 404) (n := 120035) (Nat.le_of_ble_eq_true rfl) (Nat.le_of_ble_eq_true rfl) ?_
  refine lv_lstore (lv' := [(6, .long 0), (5, .int 1), (0, .ref b), (1, .ref h0), (2, .ref m0), (3, .ref ou), (4, .int 0)]) hx hb dM_L_law_2323 hl (by decide) rfl (fun ls hl => ?_)
  refine lv_aload_n hx hb dM_L_law_2325 rfl (lv_at hl 4 rfl) ?_
  have hFc := va_free (wc := [(m0, .inr (10, [r0_18, r1_19, r2_20, r3_21, r4_22, r5_23, r6_24, r7_25, r8_26, r9_27, r10_28, r11_29, r12_30, r13_31, r14_32, r15_33, .int 1]))]) hD hS hA [1] rfl
  refine va_calli (va_runV (As := []) (rest := []) ⟨hx, hb, hml, hown, hbg⟩ (c_M_thrown l dC dI m0 r0_18 r1_19 r2_20 r3_21 r4_22 r5_23 r6_24 r7_25 r8_26 r9_27 r10_28 r11_29 r12_30 r13_31 r14_32 r15_33 1 _ ) (cwV 0 hbg (gd_V (fun _ h => h) wd_2190 wd_2191 wd_2192 wd_12 (gd_wm (fun _ h => h) wd_2193)) rfl rfl rfl (by decide +kernel) ⟨Nat.le_of_ble_eq_true rfl, Nat.le_of_ble_eq_true rfl⟩) (nPreV [1] hP hD hK hN hS hA (by decide) rfl 1 rfl rfl) rfl rfl hl.1 rfl (lv_room (Nat.le_of_ble_eq_true rfl)) dM_L_law_2326 ⟨Nat.le_of_ble_eq_true rfl, Nat.le_of_ble_eq_true rfl⟩) hS (fun q _ h => hFc q h) hFc (fun r_34 u t H1 locs ht hvm hw hB hz1 hk1 hS => ?_)
  obtain ⟨rfl, rfl⟩ := hw
  obtain ⟨r0_36, r1_37, r2_38, r3_39, r4_40, r5_41, r6_42, r7_43, r8_44, r9_45, r10_46, r11_47, r12_48, r13_49, r14_50, r15_51, hP1, hD1⟩ := hB
  rw [ht] at hP1
  obtain ⟨hP, hD⟩ := va_join (wr := [(ou, .inl (dC 101, 1, .inr (.inl f0)))]) (w1 := [(m0, .inr (10, [r0_36, r1_37, r2_38, r3_39, r4_40, r5_41, r6_42, r7_43, r8_44, r9_45, r10_46, r11_47, r12_48, r13_49, r14_50, r15_51, .int 1]))]) hP hD [1] [0] rfl rfl (by decide) (by decide) hk1 hFc hP1 hD1
  generalize H1 = H at hP hS ⊢
  have hP : va_P (dC, dI) classes [(ou, .inl (dC 101, 1, .inr (.inl f0))), (m0, .inr (10, [r0_36, r1_37, r2_38, r3_39, r4_40, r5_41, r6_42, r7_43, r8_44, r9_45, r10_46, r11_47, r12_48, r13_49, r14_50, r15_51, .int 1]))] H := hP
  have hD : va_D A [(ou, .inl (dC 101, 1, .inr (.inl f0))), (m0, .inr (10, [r0_36, r1_37, r2_38, r3_39, r4_40, r5_41, r6_42, r7_43, r8_44, r9_45, r10_46, r11_47, r12_48, r13_49, r14_50, r15_51, .int 1]))] := hD
  refine W.widen (k := 404) (n := 120035) (Nat.le_of_ble_eq_true rfl) (Nat.le_of_ble_eq_true rfl) ?_
  refine lv_iload hx hb dM_L_law_2329 (lv_at hl 1 rfl) ?_
  refine lv_icmp_eq (tgt := 2336) hx hb dM_L_law_2331 (by decide) (fun _ => ?_) (fun q => absurd (by decide) q)
  refine lv_iload hx hb dM_L_law_2336 (lv_at hl 1 rfl) ?_
  refine lv_if_ne (tgt := 2352) hx hb dM_L_law_2338 (by decide) (fun _ => ?_) (fun q => absurd q (by decide))
  refine lv_goto (tgt := 3410) hx hb dM_L_law_2352 (by decide) ?_
  refine W.widen (k := 600002) (n := 7302232) (Nat.le_of_ble_eq_true rfl) (Nat.le_of_ble_eq_true rfl) ?_
  exact hend _ _ _ hS (lv_sub hl [6, 2] rfl)
set_option maxHeartbeats 4000000 in
set_option maxRecDepth 100000 in
theorem lawc_29 {p : Program} {e : Env} {s : State} {m : MethodId} {below : List Frame} {meth : Method} {c : Code} {Z : State → Prop} (l : Launch) (hl9 : l.stackTraces = false) (dC : Nat → ClassId) (dI : Nat → Nat → Nat) {A : Nat → Prop} {b L : Nat} {xs : Nat → Int32} (hL : L = 8) (hx : p.tables.exec = Jvm.exec) (hb : c.code = cM_L_law) (hml : c.maxLocals = 8) (hown : s.vm.findClass "NoteDocumentLaw" = some m.cls) (hbg : ∀ w ∈ BIG, w.before #[Value.ref b] s = true) (hK : nK (dC, dI) s) (hN : nS A s s.heap) (hA : ∀ q : Nat, s.heap.size ≤ q → A q) (hX : va_X b L xs s s.heap) (hbl : b < s.heap.size) (hbA : ¬ A b) {H : Heap} {locs : List Loc} {ls : Array Slot} {h0 : Nat} {m0 : Nat} {ou : Nat} {st : Nat} {v1 : Value} {v2 : Value} {v3 : Value} {v4 : Value} {v5 : Value} {v6 : Value} {v7 : Value} {v8 : Value} {v9 : Value} {v10 : Value} {w3 : Value} {w4 : Value} {w5 : Value} {w6 : Value} {w7 : Value} {w8 : Value} {w9 : Value} {w10 : Value} {w11 : Value} {w12 : Value} {w13 : Value} {w14 : Value} {w15 : Value} {w16 : Value} {w17 : Value} {w18 : Value} {w19 : Value} {f0 : Nat → Int64} {nw : Nat} {z1 : Value} {z2 : Value} {z3 : Value} {z4 : Value} {z5 : Value} {z6 : Value} {z7 : Value} {z8 : Value} {z9 : Value} {z10 : Value} {z11 : Value} {z12 : Value} {z13 : Value} {z14 : Value} {z15 : Value} {z16 : Value} {t0 : Value} {t1 : Value} {t3 : Value} {t4 : Value} {t5 : Value} {t6 : Value} {t7 : Value} {t8 : Value} {t9 : Value} {t10 : Value} {t12 : Value} {t13 : Value} {t14 : Value} {t15 : Value} {t16 : Value} {t17 : Value} {t18 : Value} {t20 : Value} {t21 : Value} (hP : va_P (dC, dI) classes [(h0, .inr (0, [.ref st, v1, v2, v3, v4, v5, v6, v7, v8, v9, v10])), (st, .inr (8, [.int 0, .int 0, .int 0, w3, w4, w5, w6, w7, w8, w9, w10, w11, w12, w13, w14, w15, w16, w17, w18, w19])), (ou, .inl (dC 101, 1, .inr (.inl f0))), (m0, .inr (10, [.ref nw, z1, z2, z3, z4, z5, z6, z7, z8, z9, z10, z11, z12, z13, z14, z15, z16])), (nw, .inr (12, [t0, t1, .int 0, t3, t4, t5, t6, t7, t8, t9, t10, .int 0, t12, t13, t14, t15, t16, t17, t18, .int 0, t20, t21]))] H) (hD : va_D A [(h0, .inr (0, [.ref st, v1, v2, v3, v4, v5, v6, v7, v8, v9, v10])), (st, .inr (8, [.int 0, .int 0, .int 0, w3, w4, w5, w6, w7, w8, w9, w10, w11, w12, w13, w14, w15, w16, w17, w18, w19])), (ou, .inl (dC 101, 1, .inr (.inl f0))), (m0, .inr (10, [.ref nw, z1, z2, z3, z4, z5, z6, z7, z8, z9, z10, z11, z12, z13, z14, z15, z16])), (nw, .inr (12, [t0, t1, .int 0, t3, t4, t5, t6, t7, t8, t9, t10, .int 0, t12, t13, t14, t15, t16, t17, t18, .int 0, t20, t21]))]) (hS : va_S A s.heap H locs) (hl : lv_has ls 8 [(0, .ref b), (1, .ref h0), (2, .ref m0), (3, .ref ou), (4, .int 0)]) (hend : ∀ (H : Heap) (locs : List Loc) (ls : Array Slot), va_S A s.heap H locs → lv_has ls 8 [(4, .int 0), (0, .ref b)] → W p l e room_1 s m #[Value.ref b] below meth c H locs 600002 7302232 Z (F0 m 3410 ls [])) : W p l e room_1 s m #[Value.ref b] below meth c H locs 403 120029 Z (F0 m 2355 ls []) := by
  subst hL
  refine lv_aload_n hx hb dM_L_law_2355 rfl (lv_at hl 1 rfl) ?_
  refine lv_aload_n hx hb dM_L_law_2356 rfl (lv_at hl 0 rfl) ?_
  refine lv_iload hx hb dM_L_law_2357 (lv_at hl 4 rfl) ?_
  refine lv_iconst (v := 1) hx hb dM_L_law_2359 (by decide) ?_
  refine lv_iadd hx hb dM_L_law_2360 ?_
  refine lv_topi (fun y_1 ey_1 => ?_)
  obtain rfl : y_1 = 1 := ey_1.trans (by decide)
  refine va_sld hx hb hX hbl hbA hS (by unfold vp_in; decide) dM_L_law_2361 ?_
  refine lv_topi (fun y_2 ey_2 => ?_)
  refine lv_aload_n hx hb dM_L_law_2362 rfl (lv_at hl 3 rfl) ?_
  have hFc := va_free (wc := [(h0, .inr (0, [.ref st, v1, v2, v3, v4, v5, v6, v7, v8, v9, v10])), (st, .inr (8, [.int 0, .int 0, .int 0, w3, w4, w5, w6, w7, w8, w9, w10, w11, w12, w13, w14, w15, w16, w17, w18, w19])), (ou, .inl (dC 101, 1, .inr (.inl f0)))]) hD hS hA [0, 1, 2] rfl
  refine va_calli (vx_runSW (As := [.ref h0, .int y_2, .ref ou]) (rest := []) ⟨hx, hb, hml, hown, hbg⟩ (c_L_length l hl9 dC dI h0 y_2 ou st v1 v2 v3 v4 v5 v6 v7 v8 v9 v10 w3 w4 w5 w6 w7 w8 w9 w10 w11 w12 w13 w14 w15 w16 w17 w18 w19 f0 _ ) (vx_cwSW 3 hbg (gd_S (fun _ h => h) wd_1468 wd_1469 wd_0 (gd_wmW (fun _ h => h) wd_1470)) rfl rfl rfl (by decide +kernel) ⟨Nat.le_of_ble_eq_true rfl, Nat.le_of_ble_eq_true rfl⟩) (nPreS [0, 1, 2] hP hD hK hN hS hA (by decide) rfl) rfl rfl hl.1 rfl (lv_room (Nat.le_of_ble_eq_true rfl)) dM_L_law_2363 ⟨Nat.le_of_ble_eq_true rfl, Nat.le_of_ble_eq_true rfl⟩) hS (fun q _ h => hFc q h) hFc (fun r_3 u t H1 locs ht hvm hw hB hz1 hk1 hS => ?_)
  obtain ⟨rfl, hu_5⟩ := hw
  obtain rfl := hu_5.symm
  obtain ⟨hP1, hD1⟩ := hB
  rw [ht] at hP1
  obtain ⟨hP, hD⟩ := va_join (wr := [(m0, .inr (10, [.ref nw, z1, z2, z3, z4, z5, z6, z7, z8, z9, z10, z11, z12, z13, z14, z15, z16])), (nw, .inr (12, [t0, t1, .int 0, t3, t4, t5, t6, t7, t8, t9, t10, .int 0, t12, t13, t14, t15, t16, t17, t18, .int 0, t20, t21]))]) (w1 := [(ou, .inl (dC 101, 1, .inr (.inl f0)))]) hP hD [0, 1, 2] [3, 4] rfl rfl (by decide) (by decide) hk1 hFc hP1 hD1
  generalize H1 = H at hP hS ⊢
  have hP : va_P (dC, dI) classes [(m0, .inr (10, [.ref nw, z1, z2, z3, z4, z5, z6, z7, z8, z9, z10, z11, z12, z13, z14, z15, z16])), (nw, .inr (12, [t0, t1, .int 0, t3, t4, t5, t6, t7, t8, t9, t10, .int 0, t12, t13, t14, t15, t16, t17, t18, .int 0, t20, t21])), (ou, .inl (dC 101, 1, .inr (.inl f0)))] H := hP
  have hD : va_D A [(m0, .inr (10, [.ref nw, z1, z2, z3, z4, z5, z6, z7, z8, z9, z10, z11, z12, z13, z14, z15, z16])), (nw, .inr (12, [t0, t1, .int 0, t3, t4, t5, t6, t7, t8, t9, t10, .int 0, t12, t13, t14, t15, t16, t17, t18, .int 0, t20, t21])), (ou, .inl (dC 101, 1, .inr (.inl f0)))] := hD
  refine W.widen (k := 404) (n := 120035) (Nat.le_of_ble_eq_true rfl) (Nat.le_of_ble_eq_true rfl) ?_
  refine lv_istore (lv' := [(5, .int 1), (0, .ref b), (1, .ref h0), (2, .ref m0), (3, .ref ou), (4, .int 0)]) hx hb dM_L_law_2366 hl (by decide) rfl (fun ls hl => ?_)
  refine lv_aload_n hx hb dM_L_law_2368 rfl (lv_at hl 3 rfl) ?_
  refine lv_aload_n hx hb dM_L_law_2369 rfl (lv_at hl 1 rfl) ?_
  refine lv_iload hx hb dM_L_law_2370 (lv_at hl 5 rfl) ?_
  refine lv_iconst (v := 1) hx hb dM_L_law_2372 (by decide) ?_
  refine lv_iadd hx hb dM_L_law_2373 ?_
  refine lv_topi (fun y_6 ey_6 => ?_)
  obtain rfl : y_6 = 1 := ey_6.trans (by decide)
  refine va_sld hx hb hX hbl hbA hS (by unfold vp_in; decide) dM_L_law_2374 ?_
  refine lv_topi (fun y_7 ey_7 => ?_)
  obtain rfl : y_2 = y_7 := ey_2.trans ey_7.symm
  have hFc := va_free (wc := [(m0, .inr (10, [.ref nw, z1, z2, z3, z4, z5, z6, z7, z8, z9, z10, z11, z12, z13, z14, z15, z16])), (nw, .inr (12, [t0, t1, .int 0, t3, t4, t5, t6, t7, t8, t9, t10, .int 0, t12, t13, t14, t15, t16, t17, t18, .int 0, t20, t21]))]) hD hS hA [0, 1] rfl
  refine va_calli (va_runV (As := [.int y_2]) (rest := []) ⟨hx, hb, hml, hown, hbg⟩ (c_M_length l dC dI m0 y_2 nw z1 z2 z3 z4 z5 z6 z7 z8 z9 z10 z11 z12 z13 z14 z15 z16 t0 t1 t3 t4 t5 t6 t7 t8 t9 t10 t12 t13 t14 t15 t16 t17 t18 t20 t21 _ ) (cwV 1 hbg (gd_V (fun _ h => h) wd_2742 wd_2743 wd_2744 wd_12 (gd_wm (fun _ h => h) wd_2745)) rfl rfl rfl (by decide +kernel) ⟨Nat.le_of_ble_eq_true rfl, Nat.le_of_ble_eq_true rfl⟩) (nPreV [0, 1] hP hD hK hN hS hA (by decide) rfl 0 rfl rfl) rfl rfl hl.1 rfl (lv_room (Nat.le_of_ble_eq_true rfl)) dM_L_law_2375 ⟨Nat.le_of_ble_eq_true rfl, Nat.le_of_ble_eq_true rfl⟩) hS (fun q _ h => hFc q h) hFc (fun r_8 u t H1 locs ht hvm hw hB hz1 hk1 hS => ?_)
  obtain ⟨rfl, rfl⟩ := hw
  obtain ⟨r0_10, r1_11, r2_12, r3_13, r4_14, r5_15, r6_16, r7_17, r8_18, r9_19, r10_20, r11_21, r12_22, r13_23, r14_24, r15_25, hP1, hD1⟩ := hB
  rw [ht] at hP1
  obtain ⟨hP, hD⟩ := va_join (wr := [(ou, .inl (dC 101, 1, .inr (.inl f0)))]) (w1 := [(m0, .inr (10, [r0_10, r1_11, r2_12, r3_13, r4_14, r5_15, r6_16, r7_17, r8_18, r9_19, r10_20, r11_21, r12_22, r13_23, r14_24, r15_25, .int 1]))]) hP hD [0, 1] [2] rfl rfl (by decide) (by decide) hk1 hFc hP1 hD1
  generalize H1 = H at hP hS ⊢
  have hP : va_P (dC, dI) classes [(ou, .inl (dC 101, 1, .inr (.inl f0))), (m0, .inr (10, [r0_10, r1_11, r2_12, r3_13, r4_14, r5_15, r6_16, r7_17, r8_18, r9_19, r10_20, r11_21, r12_22, r13_23, r14_24, r15_25, .int 1]))] H := hP
  have hD : va_D A [(ou, .inl (dC 101, 1, .inr (.inl f0))), (m0, .inr (10, [r0_10, r1_11, r2_12, r3_13, r4_14, r5_15, r6_16, r7_17, r8_18, r9_19, r10_20, r11_21, r12_22, r13_23, r14_24, r15_25, .int 1]))] := hD
  refine W.widen (k := 404) (n := 120035) (Nat.le_of_ble_eq_true rfl) (Nat.le_of_ble_eq_true rfl) ?_
  refine lv_istore (lv' := [(6, .int 0), (5, .int 1), (0, .ref b), (1, .ref h0), (2, .ref m0), (3, .ref ou), (4, .int 0)]) hx hb dM_L_law_2378 hl (by decide) rfl (fun ls hl => ?_)
  refine lv_aload_n hx hb dM_L_law_2380 rfl (lv_at hl 4 rfl) ?_
  have hFc := va_free (wc := [(m0, .inr (10, [r0_10, r1_11, r2_12, r3_13, r4_14, r5_15, r6_16, r7_17, r8_18, r9_19, r10_20, r11_21, r12_22, r13_23, r14_24, r15_25, .int 1]))]) hD hS hA [1] rfl
  refine va_calli (va_runV (As := []) (rest := []) ⟨hx, hb, hml, hown, hbg⟩ (c_M_thrown l dC dI m0 r0_10 r1_11 r2_12 r3_13 r4_14 r5_15 r6_16 r7_17 r8_18 r9_19 r10_20 r11_21 r12_22 r13_23 r14_24 r15_25 1 _ ) (cwV 0 hbg (gd_V (fun _ h => h) wd_2190 wd_2191 wd_2192 wd_12 (gd_wm (fun _ h => h) wd_2193)) rfl rfl rfl (by decide +kernel) ⟨Nat.le_of_ble_eq_true rfl, Nat.le_of_ble_eq_true rfl⟩) (nPreV [1] hP hD hK hN hS hA (by decide) rfl 1 rfl rfl) rfl rfl hl.1 rfl (lv_room (Nat.le_of_ble_eq_true rfl)) dM_L_law_2381 ⟨Nat.le_of_ble_eq_true rfl, Nat.le_of_ble_eq_true rfl⟩) hS (fun q _ h => hFc q h) hFc (fun r_26 u t H1 locs ht hvm hw hB hz1 hk1 hS => ?_)
  obtain ⟨rfl, rfl⟩ := hw
  obtain ⟨r0_28, r1_29, r2_30, r3_31, r4_32, r5_33, r6_34, r7_35, r8_36, r9_37, r10_38, r11_39, r12_40, r13_41, r14_42, r15_43, hP1, hD1⟩ := hB
  rw [ht] at hP1
  obtain ⟨hP, hD⟩ := va_join (wr := [(ou, .inl (dC 101, 1, .inr (.inl f0)))]) (w1 := [(m0, .inr (10, [r0_28, r1_29, r2_30, r3_31, r4_32, r5_33, r6_34, r7_35, r8_36, r9_37, r10_38, r11_39, r12_40, r13_41, r14_42, r15_43, .int 1]))]) hP hD [1] [0] rfl rfl (by decide) (by decide) hk1 hFc hP1 hD1
  generalize H1 = H at hP hS ⊢
  have hP : va_P (dC, dI) classes [(ou, .inl (dC 101, 1, .inr (.inl f0))), (m0, .inr (10, [r0_28, r1_29, r2_30, r3_31, r4_32, r5_33, r6_34, r7_35, r8_36, r9_37, r10_38, r11_39, r12_40, r13_41, r14_42, r15_43, .int 1]))] H := hP
  have hD : va_D A [(ou, .inl (dC 101, 1, .inr (.inl f0))), (m0, .inr (10, [r0_28, r1_29, r2_30, r3_31, r4_32, r5_33, r6_34, r7_35, r8_36, r9_37, r10_38, r11_39, r12_40, r13_41, r14_42, r15_43, .int 1]))] := hD
  refine W.widen (k := 404) (n := 120035) (Nat.le_of_ble_eq_true rfl) (Nat.le_of_ble_eq_true rfl) ?_
  refine lv_iload hx hb dM_L_law_2384 (lv_at hl 1 rfl) ?_
  refine lv_icmp_eq (tgt := 2391) hx hb dM_L_law_2386 (by decide) (fun _ => ?_) (fun q => absurd (by decide) q)
  refine lv_iload hx hb dM_L_law_2391 (lv_at hl 1 rfl) ?_
  refine lv_if_ne (tgt := 2408) hx hb dM_L_law_2393 (by decide) (fun _ => ?_) (fun q => absurd q (by decide))
  refine lv_goto (tgt := 3410) hx hb dM_L_law_2408 (by decide) ?_
  refine W.widen (k := 600002) (n := 7302232) (Nat.le_of_ble_eq_true rfl) (Nat.le_of_ble_eq_true rfl) ?_
  exact hend _ _ _ hS (lv_sub hl [6, 2] rfl)
set_option maxHeartbeats 4000000 in
set_option maxRecDepth 100000 in
theorem lawc_30 {p : Program} {e : Env} {s : State} {m : MethodId} {below : List Frame} {meth : Method} {c : Code} {Z : State → Prop} (l : Launch) (hl9 : l.stackTraces = false) (dC : Nat → ClassId) (dI : Nat → Nat → Nat) {A : Nat → Prop} {b L : Nat} {xs : Nat → Int32} (hL : L = 8) (hx : p.tables.exec = Jvm.exec) (hb : c.code = cM_L_law) (hml : c.maxLocals = 8) (hown : s.vm.findClass "NoteDocumentLaw" = some m.cls) (hbg : ∀ w ∈ BIG, w.before #[Value.ref b] s = true) (hK : nK (dC, dI) s) (hN : nS A s s.heap) (hA : ∀ q : Nat, s.heap.size ≤ q → A q) (hX : va_X b L xs s s.heap) (hbl : b < s.heap.size) (hbA : ¬ A b) {H : Heap} {locs : List Loc} {ls : Array Slot} {h0 : Nat} {m0 : Nat} {ou : Nat} {st : Nat} {v1 : Value} {v2 : Value} {v3 : Value} {v4 : Value} {v5 : Value} {v6 : Value} {v7 : Value} {v8 : Value} {v9 : Value} {v10 : Value} {w3 : Value} {w4 : Value} {w5 : Value} {w6 : Value} {w7 : Value} {w8 : Value} {w9 : Value} {w10 : Value} {w11 : Value} {w12 : Value} {w13 : Value} {w14 : Value} {w15 : Value} {w16 : Value} {w17 : Value} {w18 : Value} {w19 : Value} {f0 : Nat → Int64} {nw : Nat} {z1 : Value} {z2 : Value} {z3 : Value} {z4 : Value} {z5 : Value} {z6 : Value} {z7 : Value} {z8 : Value} {z9 : Value} {z10 : Value} {z11 : Value} {z12 : Value} {z13 : Value} {z14 : Value} {z15 : Value} {z16 : Value} {t0 : Value} {t1 : Value} {t3 : Value} {t4 : Value} {t5 : Value} {t6 : Value} {t7 : Value} {t8 : Value} {t9 : Value} {t10 : Value} {t12 : Value} {t13 : Value} {t14 : Value} {t15 : Value} {t16 : Value} {t17 : Value} {t18 : Value} {t20 : Value} {t21 : Value} (hP : va_P (dC, dI) classes [(h0, .inr (0, [.ref st, v1, v2, v3, v4, v5, v6, v7, v8, v9, v10])), (st, .inr (8, [.int 0, .int 0, .int 0, w3, w4, w5, w6, w7, w8, w9, w10, w11, w12, w13, w14, w15, w16, w17, w18, w19])), (ou, .inl (dC 101, 1, .inr (.inl f0))), (m0, .inr (10, [.ref nw, z1, z2, z3, z4, z5, z6, z7, z8, z9, z10, z11, z12, z13, z14, z15, z16])), (nw, .inr (12, [t0, t1, .int 0, t3, t4, t5, t6, t7, t8, t9, t10, .int 0, t12, t13, t14, t15, t16, t17, t18, .int 0, t20, t21]))] H) (hD : va_D A [(h0, .inr (0, [.ref st, v1, v2, v3, v4, v5, v6, v7, v8, v9, v10])), (st, .inr (8, [.int 0, .int 0, .int 0, w3, w4, w5, w6, w7, w8, w9, w10, w11, w12, w13, w14, w15, w16, w17, w18, w19])), (ou, .inl (dC 101, 1, .inr (.inl f0))), (m0, .inr (10, [.ref nw, z1, z2, z3, z4, z5, z6, z7, z8, z9, z10, z11, z12, z13, z14, z15, z16])), (nw, .inr (12, [t0, t1, .int 0, t3, t4, t5, t6, t7, t8, t9, t10, .int 0, t12, t13, t14, t15, t16, t17, t18, .int 0, t20, t21]))]) (hS : va_S A s.heap H locs) (hl : lv_has ls 8 [(0, .ref b), (1, .ref h0), (2, .ref m0), (3, .ref ou), (4, .int 0)]) (hend : ∀ (H : Heap) (locs : List Loc) (ls : Array Slot), va_S A s.heap H locs → lv_has ls 8 [(4, .int 0), (0, .ref b)] → W p l e room_1 s m #[Value.ref b] below meth c H locs 600002 7302232 Z (F0 m 3410 ls [])) : W p l e room_1 s m #[Value.ref b] below meth c H locs 403 120029 Z (F0 m 2411 ls []) := by
  subst hL
  refine lv_aload_n hx hb dM_L_law_2411 rfl (lv_at hl 1 rfl) ?_
  refine lv_aload_n hx hb dM_L_law_2412 rfl (lv_at hl 0 rfl) ?_
  refine lv_iload hx hb dM_L_law_2413 (lv_at hl 4 rfl) ?_
  refine lv_iconst (v := 1) hx hb dM_L_law_2415 (by decide) ?_
  refine lv_iadd hx hb dM_L_law_2416 ?_
  refine lv_topi (fun y_1 ey_1 => ?_)
  obtain rfl : y_1 = 1 := ey_1.trans (by decide)
  refine va_sld hx hb hX hbl hbA hS (by unfold vp_in; decide) dM_L_law_2417 ?_
  refine lv_topi (fun y_2 ey_2 => ?_)
  refine lv_aload_n hx hb dM_L_law_2418 rfl (lv_at hl 0 rfl) ?_
  refine lv_iload hx hb dM_L_law_2419 (lv_at hl 4 rfl) ?_
  refine lv_iconst (v := 2) hx hb dM_L_law_2421 (by decide) ?_
  refine lv_iadd hx hb dM_L_law_2422 ?_
  refine lv_topi (fun y_3 ey_3 => ?_)
  obtain rfl : y_3 = 2 := ey_3.trans (by decide)
  refine va_sld hx hb hX hbl hbA hS (by unfold vp_in; decide) dM_L_law_2423 ?_
  refine lv_topi (fun y_4 ey_4 => ?_)
  refine lv_aload_n hx hb dM_L_law_2424 rfl (lv_at hl 3 rfl) ?_
  have hFc := va_free (wc := [(h0, .inr (0, [.ref st, v1, v2, v3, v4, v5, v6, v7, v8, v9, v10])), (st, .inr (8, [.int 0, .int 0, .int 0, w3, w4, w5, w6, w7, w8, w9, w10, w11, w12, w13, w14, w15, w16, w17, w18, w19])), (ou, .inl (dC 101, 1, .inr (.inl f0)))]) hD hS hA [0, 1, 2] rfl
  refine va_calli (vx_runSW (As := [.ref h0, .int y_2, .int y_4, .ref ou]) (rest := []) ⟨hx, hb, hml, hown, hbg⟩ (c_L_letter l hl9 dC dI h0 y_2 y_4 ou st v1 v2 v3 v4 v5 v6 v7 v8 v9 v10 w3 w4 w5 w6 w7 w8 w9 w10 w11 w12 w13 w14 w15 w16 w17 w18 w19 f0 _ ) (vx_cwSW 4 hbg (gd_S (fun _ h => h) wd_1480 wd_1481 wd_0 (gd_wmW (fun _ h => h) wd_1482)) rfl rfl rfl (by decide +kernel) ⟨Nat.le_of_ble_eq_true rfl, Nat.le_of_ble_eq_true rfl⟩) (nPreS [0, 1, 2] hP hD hK hN hS hA (by decide) rfl) rfl rfl hl.1 rfl (lv_room (Nat.le_of_ble_eq_true rfl)) dM_L_law_2425 ⟨Nat.le_of_ble_eq_true rfl, Nat.le_of_ble_eq_true rfl⟩) hS (fun q _ h => hFc q h) hFc (fun r_5 u t H1 locs ht hvm hw hB hz1 hk1 hS => ?_)
  obtain ⟨rfl, hu_7⟩ := hw
  obtain rfl := hu_7.symm
  obtain ⟨hP1, hD1⟩ := hB
  rw [ht] at hP1
  obtain ⟨hP, hD⟩ := va_join (wr := [(m0, .inr (10, [.ref nw, z1, z2, z3, z4, z5, z6, z7, z8, z9, z10, z11, z12, z13, z14, z15, z16])), (nw, .inr (12, [t0, t1, .int 0, t3, t4, t5, t6, t7, t8, t9, t10, .int 0, t12, t13, t14, t15, t16, t17, t18, .int 0, t20, t21]))]) (w1 := [(ou, .inl (dC 101, 1, .inr (.inl f0)))]) hP hD [0, 1, 2] [3, 4] rfl rfl (by decide) (by decide) hk1 hFc hP1 hD1
  generalize H1 = H at hP hS ⊢
  have hP : va_P (dC, dI) classes [(m0, .inr (10, [.ref nw, z1, z2, z3, z4, z5, z6, z7, z8, z9, z10, z11, z12, z13, z14, z15, z16])), (nw, .inr (12, [t0, t1, .int 0, t3, t4, t5, t6, t7, t8, t9, t10, .int 0, t12, t13, t14, t15, t16, t17, t18, .int 0, t20, t21])), (ou, .inl (dC 101, 1, .inr (.inl f0)))] H := hP
  have hD : va_D A [(m0, .inr (10, [.ref nw, z1, z2, z3, z4, z5, z6, z7, z8, z9, z10, z11, z12, z13, z14, z15, z16])), (nw, .inr (12, [t0, t1, .int 0, t3, t4, t5, t6, t7, t8, t9, t10, .int 0, t12, t13, t14, t15, t16, t17, t18, .int 0, t20, t21])), (ou, .inl (dC 101, 1, .inr (.inl f0)))] := hD
  refine W.widen (k := 404) (n := 120035) (Nat.le_of_ble_eq_true rfl) (Nat.le_of_ble_eq_true rfl) ?_
  refine lv_istore (lv' := [(5, .int 1), (0, .ref b), (1, .ref h0), (2, .ref m0), (3, .ref ou), (4, .int 0)]) hx hb dM_L_law_2428 hl (by decide) rfl (fun ls hl => ?_)
  refine lv_aload_n hx hb dM_L_law_2430 rfl (lv_at hl 3 rfl) ?_
  refine lv_aload_n hx hb dM_L_law_2431 rfl (lv_at hl 1 rfl) ?_
  refine lv_iload hx hb dM_L_law_2432 (lv_at hl 5 rfl) ?_
  refine lv_iconst (v := 1) hx hb dM_L_law_2434 (by decide) ?_
  refine lv_iadd hx hb dM_L_law_2435 ?_
  refine lv_topi (fun y_8 ey_8 => ?_)
  obtain rfl : y_8 = 1 := ey_8.trans (by decide)
  refine va_sld hx hb hX hbl hbA hS (by unfold vp_in; decide) dM_L_law_2436 ?_
  refine lv_topi (fun y_9 ey_9 => ?_)
  obtain rfl : y_2 = y_9 := ey_2.trans ey_9.symm
  refine lv_aload_n hx hb dM_L_law_2437 rfl (lv_at hl 1 rfl) ?_
  refine lv_iload hx hb dM_L_law_2438 (lv_at hl 5 rfl) ?_
  refine lv_iconst (v := 2) hx hb dM_L_law_2440 (by decide) ?_
  refine lv_iadd hx hb dM_L_law_2441 ?_
  refine lv_topi (fun y_10 ey_10 => ?_)
  obtain rfl : y_10 = 2 := ey_10.trans (by decide)
  refine va_sld hx hb hX hbl hbA hS (by unfold vp_in; decide) dM_L_law_2442 ?_
  refine lv_topi (fun y_11 ey_11 => ?_)
  obtain rfl : y_4 = y_11 := ey_4.trans ey_11.symm
  have hFc := va_free (wc := [(m0, .inr (10, [.ref nw, z1, z2, z3, z4, z5, z6, z7, z8, z9, z10, z11, z12, z13, z14, z15, z16])), (nw, .inr (12, [t0, t1, .int 0, t3, t4, t5, t6, t7, t8, t9, t10, .int 0, t12, t13, t14, t15, t16, t17, t18, .int 0, t20, t21]))]) hD hS hA [0, 1] rfl
  refine va_calli (va_runV (As := [.int y_2, .int y_4]) (rest := []) ⟨hx, hb, hml, hown, hbg⟩ (c_M_letter l dC dI m0 y_2 y_4 nw z1 z2 z3 z4 z5 z6 z7 z8 z9 z10 z11 z12 z13 z14 z15 z16 t0 t1 t3 t4 t5 t6 t7 t8 t9 t10 t12 t13 t14 t15 t16 t17 t18 t20 t21 _ ) (cwV 2 hbg (gd_V (fun _ h => h) wd_2750 wd_2751 wd_2752 wd_12 (gd_wm (fun _ h => h) wd_2753)) rfl rfl rfl (by decide +kernel) ⟨Nat.le_of_ble_eq_true rfl, Nat.le_of_ble_eq_true rfl⟩) (nPreV [0, 1] hP hD hK hN hS hA (by decide) rfl 0 rfl rfl) rfl rfl hl.1 rfl (lv_room (Nat.le_of_ble_eq_true rfl)) dM_L_law_2443 ⟨Nat.le_of_ble_eq_true rfl, Nat.le_of_ble_eq_true rfl⟩) hS (fun q _ h => hFc q h) hFc (fun r_12 u t H1 locs ht hvm hw hB hz1 hk1 hS => ?_)
  obtain ⟨rfl, rfl⟩ := hw
  obtain ⟨r0_14, r1_15, r2_16, r3_17, r4_18, r5_19, r6_20, r7_21, r8_22, r9_23, r10_24, r11_25, r12_26, r13_27, r14_28, r15_29, hP1, hD1⟩ := hB
  rw [ht] at hP1
  obtain ⟨hP, hD⟩ := va_join (wr := [(ou, .inl (dC 101, 1, .inr (.inl f0)))]) (w1 := [(m0, .inr (10, [r0_14, r1_15, r2_16, r3_17, r4_18, r5_19, r6_20, r7_21, r8_22, r9_23, r10_24, r11_25, r12_26, r13_27, r14_28, r15_29, .int 1]))]) hP hD [0, 1] [2] rfl rfl (by decide) (by decide) hk1 hFc hP1 hD1
  generalize H1 = H at hP hS ⊢
  have hP : va_P (dC, dI) classes [(ou, .inl (dC 101, 1, .inr (.inl f0))), (m0, .inr (10, [r0_14, r1_15, r2_16, r3_17, r4_18, r5_19, r6_20, r7_21, r8_22, r9_23, r10_24, r11_25, r12_26, r13_27, r14_28, r15_29, .int 1]))] H := hP
  have hD : va_D A [(ou, .inl (dC 101, 1, .inr (.inl f0))), (m0, .inr (10, [r0_14, r1_15, r2_16, r3_17, r4_18, r5_19, r6_20, r7_21, r8_22, r9_23, r10_24, r11_25, r12_26, r13_27, r14_28, r15_29, .int 1]))] := hD
  refine W.widen (k := 404) (n := 120035) (Nat.le_of_ble_eq_true rfl) (Nat.le_of_ble_eq_true rfl) ?_
  refine lv_istore (lv' := [(6, .int 0), (5, .int 1), (0, .ref b), (1, .ref h0), (2, .ref m0), (3, .ref ou), (4, .int 0)]) hx hb dM_L_law_2446 hl (by decide) rfl (fun ls hl => ?_)
  refine lv_aload_n hx hb dM_L_law_2448 rfl (lv_at hl 4 rfl) ?_
  have hFc := va_free (wc := [(m0, .inr (10, [r0_14, r1_15, r2_16, r3_17, r4_18, r5_19, r6_20, r7_21, r8_22, r9_23, r10_24, r11_25, r12_26, r13_27, r14_28, r15_29, .int 1]))]) hD hS hA [1] rfl
  refine va_calli (va_runV (As := []) (rest := []) ⟨hx, hb, hml, hown, hbg⟩ (c_M_thrown l dC dI m0 r0_14 r1_15 r2_16 r3_17 r4_18 r5_19 r6_20 r7_21 r8_22 r9_23 r10_24 r11_25 r12_26 r13_27 r14_28 r15_29 1 _ ) (cwV 0 hbg (gd_V (fun _ h => h) wd_2190 wd_2191 wd_2192 wd_12 (gd_wm (fun _ h => h) wd_2193)) rfl rfl rfl (by decide +kernel) ⟨Nat.le_of_ble_eq_true rfl, Nat.le_of_ble_eq_true rfl⟩) (nPreV [1] hP hD hK hN hS hA (by decide) rfl 1 rfl rfl) rfl rfl hl.1 rfl (lv_room (Nat.le_of_ble_eq_true rfl)) dM_L_law_2449 ⟨Nat.le_of_ble_eq_true rfl, Nat.le_of_ble_eq_true rfl⟩) hS (fun q _ h => hFc q h) hFc (fun r_30 u t H1 locs ht hvm hw hB hz1 hk1 hS => ?_)
  obtain ⟨rfl, rfl⟩ := hw
  obtain ⟨r0_32, r1_33, r2_34, r3_35, r4_36, r5_37, r6_38, r7_39, r8_40, r9_41, r10_42, r11_43, r12_44, r13_45, r14_46, r15_47, hP1, hD1⟩ := hB
  rw [ht] at hP1
  obtain ⟨hP, hD⟩ := va_join (wr := [(ou, .inl (dC 101, 1, .inr (.inl f0)))]) (w1 := [(m0, .inr (10, [r0_32, r1_33, r2_34, r3_35, r4_36, r5_37, r6_38, r7_39, r8_40, r9_41, r10_42, r11_43, r12_44, r13_45, r14_46, r15_47, .int 1]))]) hP hD [1] [0] rfl rfl (by decide) (by decide) hk1 hFc hP1 hD1
  generalize H1 = H at hP hS ⊢
  have hP : va_P (dC, dI) classes [(ou, .inl (dC 101, 1, .inr (.inl f0))), (m0, .inr (10, [r0_32, r1_33, r2_34, r3_35, r4_36, r5_37, r6_38, r7_39, r8_40, r9_41, r10_42, r11_43, r12_44, r13_45, r14_46, r15_47, .int 1]))] H := hP
  have hD : va_D A [(ou, .inl (dC 101, 1, .inr (.inl f0))), (m0, .inr (10, [r0_32, r1_33, r2_34, r3_35, r4_36, r5_37, r6_38, r7_39, r8_40, r9_41, r10_42, r11_43, r12_44, r13_45, r14_46, r15_47, .int 1]))] := hD
  refine W.widen (k := 404) (n := 120035) (Nat.le_of_ble_eq_true rfl) (Nat.le_of_ble_eq_true rfl) ?_
  refine lv_iload hx hb dM_L_law_2452 (lv_at hl 1 rfl) ?_
  refine lv_icmp_eq (tgt := 2459) hx hb dM_L_law_2454 (by decide) (fun _ => ?_) (fun q => absurd (by decide) q)
  refine lv_iload hx hb dM_L_law_2459 (lv_at hl 1 rfl) ?_
  refine lv_if_ne (tgt := 2476) hx hb dM_L_law_2461 (by decide) (fun _ => ?_) (fun q => absurd q (by decide))
  refine lv_goto (tgt := 3410) hx hb dM_L_law_2476 (by decide) ?_
  refine W.widen (k := 600002) (n := 7302232) (Nat.le_of_ble_eq_true rfl) (Nat.le_of_ble_eq_true rfl) ?_
  exact hend _ _ _ hS (lv_sub hl [6, 2] rfl)
set_option maxHeartbeats 4000000 in
set_option maxRecDepth 100000 in
theorem lawc_31 {p : Program} {e : Env} {s : State} {m : MethodId} {below : List Frame} {meth : Method} {c : Code} {Z : State → Prop} (l : Launch) (hl9 : l.stackTraces = false) (dC : Nat → ClassId) (dI : Nat → Nat → Nat) {A : Nat → Prop} {b L : Nat} {xs : Nat → Int32} (hL : L = 8) (hx : p.tables.exec = Jvm.exec) (hb : c.code = cM_L_law) (hml : c.maxLocals = 8) (hown : s.vm.findClass "NoteDocumentLaw" = some m.cls) (hbg : ∀ w ∈ BIG, w.before #[Value.ref b] s = true) (hK : nK (dC, dI) s) (hN : nS A s s.heap) (hA : ∀ q : Nat, s.heap.size ≤ q → A q) (hX : va_X b L xs s s.heap) (hbl : b < s.heap.size) (hbA : ¬ A b) {H : Heap} {locs : List Loc} {ls : Array Slot} {h0 : Nat} {m0 : Nat} {ou : Nat} {st : Nat} {v1 : Value} {v2 : Value} {v3 : Value} {v4 : Value} {fi : Nat} {v6 : Value} {v7 : Value} {v8 : Value} {v9 : Value} {v10 : Value} {fz0 : Value} {fz1 : Value} {fz2 : Value} {fz3 : Value} {z4 : Value} {fz5 : Value} {fz6 : Value} {fz7 : Value} {fz8 : Value} {fz9 : Value} {fz12 : Value} {fz13 : Value} {z0 : Value} {z1 : Value} {z2 : Value} {z3 : Value} {z5 : Value} {z6 : Value} {z7 : Value} {z8 : Value} {z9 : Value} {z10 : Value} {z11 : Value} {z12 : Value} {z13 : Value} {z14 : Value} {z15 : Value} {z16 : Value} (hP : va_P (dC, dI) classes [(h0, .inr (0, [.ref st, v1, v2, v3, v4, .ref fi, v6, v7, v8, v9, v10])), (fi, .inr (3, [fz0, fz1, fz2, fz3, z4, fz5, fz6, fz7, fz8, fz9, .int 0, .int 0, fz12, fz13])), (m0, .inr (10, [z0, z1, z2, z3, .int 0, z5, z6, z7, z8, z9, z10, z11, z12, z13, z14, z15, z16]))] H) (hD : va_D A [(h0, .inr (0, [.ref st, v1, v2, v3, v4, .ref fi, v6, v7, v8, v9, v10])), (fi, .inr (3, [fz0, fz1, fz2, fz3, z4, fz5, fz6, fz7, fz8, fz9, .int 0, .int 0, fz12, fz13])), (m0, .inr (10, [z0, z1, z2, z3, .int 0, z5, z6, z7, z8, z9, z10, z11, z12, z13, z14, z15, z16]))]) (hS : va_S A s.heap H locs) (hl : lv_has ls 8 [(0, .ref b), (1, .ref h0), (2, .ref m0), (3, .ref ou), (4, .int 0)]) (hend : ∀ (H : Heap) (locs : List Loc) (ls : Array Slot), va_S A s.heap H locs → lv_has ls 8 [(4, .int 0), (0, .ref b)] → W p l e room_1 s m #[Value.ref b] below meth c H locs 600002 7302232 Z (F0 m 3410 ls [])) : W p l e room_1 s m #[Value.ref b] below meth c H locs 403 120029 Z (F0 m 2479 ls []) := by
  subst hL
  refine lv_aload_n hx hb dM_L_law_2479 rfl (lv_at hl 1 rfl) ?_
  have hFc := va_free (wc := [(h0, .inr (0, [.ref st, v1, v2, v3, v4, .ref fi, v6, v7, v8, v9, v10])), (fi, .inr (3, [fz0, fz1, fz2, fz3, z4, fz5, fz6, fz7, fz8, fz9, .int 0, .int 0, fz12, fz13]))]) hD hS hA [0, 1] rfl
  refine va_calli (va_runV (As := []) (rest := []) ⟨hx, hb, hml, hown, hbg⟩ (c_D_runs l dC dI h0 st v1 v2 v3 v4 fi v6 v7 v8 v9 v10 fz0 fz1 fz2 fz3 z4 fz5 fz6 fz7 fz8 fz9 fz12 fz13 _ ) (cwV 0 hbg (gd_V (fun _ h => h) wd_1012 wd_1013 wd_1014 wd_1 (gd_wm (fun _ h => h) wd_1015)) rfl rfl rfl (by decide +kernel) ⟨Nat.le_of_ble_eq_true rfl, Nat.le_of_ble_eq_true rfl⟩) (nPreV [0, 1] hP hD hK hN hS hA (by decide) rfl 0 rfl rfl) rfl rfl hl.1 rfl (lv_room (Nat.le_of_ble_eq_true rfl)) dM_L_law_2480 ⟨Nat.le_of_ble_eq_true rfl, Nat.le_of_ble_eq_true rfl⟩) hS (fun q _ h => hFc q h) hFc (fun r_1 u t H1 locs ht hvm hw hB hz1 hk1 hS => ?_)
  obtain rfl := hw
  obtain ⟨hP, hD⟩ := va_join (wr := [(m0, .inr (10, [z0, z1, z2, z3, .int 0, z5, z6, z7, z8, z9, z10, z11, z12, z13, z14, z15, z16]))]) (w1 := []) hP hD [0, 1] [2] rfl rfl (by decide) (by decide) hk1 hFc nP0 nD0
  generalize H1 = H at hP hS ⊢
  have hP : va_P (dC, dI) classes [(m0, .inr (10, [z0, z1, z2, z3, .int 0, z5, z6, z7, z8, z9, z10, z11, z12, z13, z14, z15, z16]))] H := hP
  have hD : va_D A [(m0, .inr (10, [z0, z1, z2, z3, .int 0, z5, z6, z7, z8, z9, z10, z11, z12, z13, z14, z15, z16]))] := hD
  refine W.widen (k := 403) (n := 120029) (Nat.le_of_ble_eq_true rfl) (Nat.le_of_ble_eq_true rfl) ?_
  refine lv_aload_n hx hb dM_L_law_2483 rfl (lv_at hl 2 rfl) ?_
  have hFc := va_free (wc := [(m0, .inr (10, [z0, z1, z2, z3, .int 0, z5, z6, z7, z8, z9, z10, z11, z12, z13, z14, z15, z16]))]) hD hS hA [0] rfl
  refine va_calli (va_runV (As := []) (rest := [.int 0]) ⟨hx, hb, hml, hown, hbg⟩ (c_M_runs l dC dI m0 z0 z1 z2 z3 z5 z6 z7 z8 z9 z10 z11 z12 z13 z14 z15 z16 _ ) (cwV 0 hbg (gd_V (fun _ h => h) wd_2755 wd_2756 wd_2757 wd_12 (gd_wm (fun _ h => h) wd_2758)) rfl rfl rfl (by decide +kernel) ⟨Nat.le_of_ble_eq_true rfl, Nat.le_of_ble_eq_true rfl⟩) (nPreV [0] hP hD hK hN hS hA (by decide) rfl 0 rfl rfl) rfl rfl hl.1 rfl (lv_room (Nat.le_of_ble_eq_true rfl)) dM_L_law_2484 ⟨Nat.le_of_ble_eq_true rfl, Nat.le_of_ble_eq_true rfl⟩) hS (fun q _ h => hFc q h) hFc (fun r_3 u t H1 locs ht hvm hw hB hz1 hk1 hS => ?_)
  obtain ⟨rfl, rfl⟩ := hw
  obtain ⟨r0_5, r1_6, r2_7, r3_8, r4_9, r5_10, r6_11, r7_12, r8_13, r9_14, r10_15, r11_16, r12_17, r13_18, r14_19, r15_20, hP1, hD1⟩ := hB
  rw [ht] at hP1
  obtain ⟨hP, hD⟩ := va_join (wr := []) (w1 := [(m0, .inr (10, [r0_5, r1_6, r2_7, r3_8, r4_9, r5_10, r6_11, r7_12, r8_13, r9_14, r10_15, r11_16, r12_17, r13_18, r14_19, r15_20, .int 0]))]) hP hD [0] [] rfl rfl (by decide) (by decide) hk1 hFc hP1 hD1
  generalize H1 = H at hP hS ⊢
  have hP : va_P (dC, dI) classes [(m0, .inr (10, [r0_5, r1_6, r2_7, r3_8, r4_9, r5_10, r6_11, r7_12, r8_13, r9_14, r10_15, r11_16, r12_17, r13_18, r14_19, r15_20, .int 0]))] H := hP
  have hD : va_D A [(m0, .inr (10, [r0_5, r1_6, r2_7, r3_8, r4_9, r5_10, r6_11, r7_12, r8_13, r9_14, r10_15, r11_16, r12_17, r13_18, r14_19, r15_20, .int 0]))] := hD
  refine W.widen (k := 403) (n := 120029) (Nat.le_of_ble_eq_true rfl) (Nat.le_of_ble_eq_true rfl) ?_
  refine lv_icmp_eq (tgt := 3410) hx hb dM_L_law_2487 (by decide) (fun _ => ?_) (fun q => absurd (by decide) q)
  refine W.widen (k := 600002) (n := 7302232) (Nat.le_of_ble_eq_true rfl) (Nat.le_of_ble_eq_true rfl) ?_
  exact hend _ _ _ hS (lv_sub hl [4, 0] rfl)
set_option maxHeartbeats 4000000 in
set_option maxRecDepth 100000 in
theorem lawc_32 {p : Program} {e : Env} {s : State} {m : MethodId} {below : List Frame} {meth : Method} {c : Code} {Z : State → Prop} (l : Launch) (hl9 : l.stackTraces = false) (dC : Nat → ClassId) (dI : Nat → Nat → Nat) {A : Nat → Prop} {b L : Nat} {xs : Nat → Int32} (hL : L = 8) (hx : p.tables.exec = Jvm.exec) (hb : c.code = cM_L_law) (hml : c.maxLocals = 8) (hown : s.vm.findClass "NoteDocumentLaw" = some m.cls) (hbg : ∀ w ∈ BIG, w.before #[Value.ref b] s = true) (hK : nK (dC, dI) s) (hN : nS A s s.heap) (hA : ∀ q : Nat, s.heap.size ≤ q → A q) (hX : va_X b L xs s s.heap) (hbl : b < s.heap.size) (hbA : ¬ A b) {H : Heap} {locs : List Loc} {ls : Array Slot} {h0 : Nat} {m0 : Nat} {ou : Nat} {st : Nat} {v1 : Value} {v2 : Value} {v3 : Value} {v4 : Value} {fi : Nat} {v6 : Value} {v7 : Value} {v8 : Value} {v9 : Value} {v10 : Value} {fz0 : Value} {fz1 : Value} {fz2 : Value} {fz3 : Value} {fz4 : Value} {z5 : Value} {fz6 : Value} {fz7 : Value} {fz8 : Value} {fz9 : Value} {fz12 : Value} {fz13 : Value} {z0 : Value} {z1 : Value} {z2 : Value} {z3 : Value} {z4 : Value} {z6 : Value} {z7 : Value} {z8 : Value} {z9 : Value} {z10 : Value} {z11 : Value} {z12 : Value} {z13 : Value} {z14 : Value} {z15 : Value} {z16 : Value} (hP : va_P (dC, dI) classes [(h0, .inr (0, [.ref st, v1, v2, v3, v4, .ref fi, v6, v7, v8, v9, v10])), (fi, .inr (3, [fz0, fz1, fz2, fz3, fz4, z5, fz6, fz7, fz8, fz9, .int 0, .int 0, fz12, fz13])), (m0, .inr (10, [z0, z1, z2, z3, z4, .int 0, z6, z7, z8, z9, z10, z11, z12, z13, z14, z15, z16]))] H) (hD : va_D A [(h0, .inr (0, [.ref st, v1, v2, v3, v4, .ref fi, v6, v7, v8, v9, v10])), (fi, .inr (3, [fz0, fz1, fz2, fz3, fz4, z5, fz6, fz7, fz8, fz9, .int 0, .int 0, fz12, fz13])), (m0, .inr (10, [z0, z1, z2, z3, z4, .int 0, z6, z7, z8, z9, z10, z11, z12, z13, z14, z15, z16]))]) (hS : va_S A s.heap H locs) (hl : lv_has ls 8 [(0, .ref b), (1, .ref h0), (2, .ref m0), (3, .ref ou), (4, .int 0)]) (hend : ∀ (H : Heap) (locs : List Loc) (ls : Array Slot), va_S A s.heap H locs → lv_has ls 8 [(4, .int 0), (0, .ref b)] → W p l e room_1 s m #[Value.ref b] below meth c H locs 600002 7302232 Z (F0 m 3410 ls [])) : W p l e room_1 s m #[Value.ref b] below meth c H locs 403 120029 Z (F0 m 2492 ls []) := by
  subst hL
  refine lv_aload_n hx hb dM_L_law_2492 rfl (lv_at hl 1 rfl) ?_
  have hFc := va_free (wc := [(h0, .inr (0, [.ref st, v1, v2, v3, v4, .ref fi, v6, v7, v8, v9, v10])), (fi, .inr (3, [fz0, fz1, fz2, fz3, fz4, z5, fz6, fz7, fz8, fz9, .int 0, .int 0, fz12, fz13]))]) hD hS hA [0, 1] rfl
  refine va_calli (va_runV (As := []) (rest := []) ⟨hx, hb, hml, hown, hbg⟩ (c_D_calls l dC dI h0 st v1 v2 v3 v4 fi v6 v7 v8 v9 v10 fz0 fz1 fz2 fz3 fz4 z5 fz6 fz7 fz8 fz9 fz12 fz13 _ ) (cwV 0 hbg (gd_V (fun _ h => h) wd_1016 wd_1017 wd_1018 wd_1 (gd_wm (fun _ h => h) wd_1019)) rfl rfl rfl (by decide +kernel) ⟨Nat.le_of_ble_eq_true rfl, Nat.le_of_ble_eq_true rfl⟩) (nPreV [0, 1] hP hD hK hN hS hA (by decide) rfl 0 rfl rfl) rfl rfl hl.1 rfl (lv_room (Nat.le_of_ble_eq_true rfl)) dM_L_law_2493 ⟨Nat.le_of_ble_eq_true rfl, Nat.le_of_ble_eq_true rfl⟩) hS (fun q _ h => hFc q h) hFc (fun r_1 u t H1 locs ht hvm hw hB hz1 hk1 hS => ?_)
  obtain rfl := hw
  obtain ⟨hP, hD⟩ := va_join (wr := [(m0, .inr (10, [z0, z1, z2, z3, z4, .int 0, z6, z7, z8, z9, z10, z11, z12, z13, z14, z15, z16]))]) (w1 := []) hP hD [0, 1] [2] rfl rfl (by decide) (by decide) hk1 hFc nP0 nD0
  generalize H1 = H at hP hS ⊢
  have hP : va_P (dC, dI) classes [(m0, .inr (10, [z0, z1, z2, z3, z4, .int 0, z6, z7, z8, z9, z10, z11, z12, z13, z14, z15, z16]))] H := hP
  have hD : va_D A [(m0, .inr (10, [z0, z1, z2, z3, z4, .int 0, z6, z7, z8, z9, z10, z11, z12, z13, z14, z15, z16]))] := hD
  refine W.widen (k := 403) (n := 120029) (Nat.le_of_ble_eq_true rfl) (Nat.le_of_ble_eq_true rfl) ?_
  refine lv_aload_n hx hb dM_L_law_2496 rfl (lv_at hl 2 rfl) ?_
  have hFc := va_free (wc := [(m0, .inr (10, [z0, z1, z2, z3, z4, .int 0, z6, z7, z8, z9, z10, z11, z12, z13, z14, z15, z16]))]) hD hS hA [0] rfl
  refine va_calli (va_runV (As := []) (rest := [.int 0]) ⟨hx, hb, hml, hown, hbg⟩ (c_M_calls l dC dI m0 z0 z1 z2 z3 z4 z6 z7 z8 z9 z10 z11 z12 z13 z14 z15 z16 _ ) (cwV 0 hbg (gd_V (fun _ h => h) wd_2759 wd_2760 wd_2761 wd_12 (gd_wm (fun _ h => h) wd_2762)) rfl rfl rfl (by decide +kernel) ⟨Nat.le_of_ble_eq_true rfl, Nat.le_of_ble_eq_true rfl⟩) (nPreV [0] hP hD hK hN hS hA (by decide) rfl 0 rfl rfl) rfl rfl hl.1 rfl (lv_room (Nat.le_of_ble_eq_true rfl)) dM_L_law_2497 ⟨Nat.le_of_ble_eq_true rfl, Nat.le_of_ble_eq_true rfl⟩) hS (fun q _ h => hFc q h) hFc (fun r_3 u t H1 locs ht hvm hw hB hz1 hk1 hS => ?_)
  obtain ⟨rfl, rfl⟩ := hw
  obtain ⟨r0_5, r1_6, r2_7, r3_8, r4_9, r5_10, r6_11, r7_12, r8_13, r9_14, r10_15, r11_16, r12_17, r13_18, r14_19, r15_20, hP1, hD1⟩ := hB
  rw [ht] at hP1
  obtain ⟨hP, hD⟩ := va_join (wr := []) (w1 := [(m0, .inr (10, [r0_5, r1_6, r2_7, r3_8, r4_9, r5_10, r6_11, r7_12, r8_13, r9_14, r10_15, r11_16, r12_17, r13_18, r14_19, r15_20, .int 0]))]) hP hD [0] [] rfl rfl (by decide) (by decide) hk1 hFc hP1 hD1
  generalize H1 = H at hP hS ⊢
  have hP : va_P (dC, dI) classes [(m0, .inr (10, [r0_5, r1_6, r2_7, r3_8, r4_9, r5_10, r6_11, r7_12, r8_13, r9_14, r10_15, r11_16, r12_17, r13_18, r14_19, r15_20, .int 0]))] H := hP
  have hD : va_D A [(m0, .inr (10, [r0_5, r1_6, r2_7, r3_8, r4_9, r5_10, r6_11, r7_12, r8_13, r9_14, r10_15, r11_16, r12_17, r13_18, r14_19, r15_20, .int 0]))] := hD
  refine W.widen (k := 403) (n := 120029) (Nat.le_of_ble_eq_true rfl) (Nat.le_of_ble_eq_true rfl) ?_
  refine lv_icmp_eq (tgt := 3410) hx hb dM_L_law_2500 (by decide) (fun _ => ?_) (fun q => absurd (by decide) q)
  refine W.widen (k := 600002) (n := 7302232) (Nat.le_of_ble_eq_true rfl) (Nat.le_of_ble_eq_true rfl) ?_
  exact hend _ _ _ hS (lv_sub hl [4, 0] rfl)
set_option maxHeartbeats 4000000 in
set_option maxRecDepth 100000 in
theorem lawc_33 {p : Program} {e : Env} {s : State} {m : MethodId} {below : List Frame} {meth : Method} {c : Code} {Z : State → Prop} (l : Launch) (hl9 : l.stackTraces = false) (dC : Nat → ClassId) (dI : Nat → Nat → Nat) {A : Nat → Prop} {b L : Nat} {xs : Nat → Int32} (hL : L = 8) (hx : p.tables.exec = Jvm.exec) (hb : c.code = cM_L_law) (hml : c.maxLocals = 8) (hown : s.vm.findClass "NoteDocumentLaw" = some m.cls) (hbg : ∀ w ∈ BIG, w.before #[Value.ref b] s = true) (hK : nK (dC, dI) s) (hN : nS A s s.heap) (hA : ∀ q : Nat, s.heap.size ≤ q → A q) (hX : va_X b L xs s s.heap) (hbl : b < s.heap.size) (hbA : ¬ A b) {H : Heap} {locs : List Loc} {ls : Array Slot} {h0 : Nat} {m0 : Nat} {ou : Nat} {st : Nat} {v1 : Value} {v2 : Value} {v3 : Value} {v4 : Value} {v5 : Value} {v6 : Value} {v7 : Value} {v8 : Value} {v9 : Value} {v10 : Value} {w3 : Value} {w4 : Value} {w5 : Value} {w6 : Value} {w7 : Value} {w8 : Value} {w9 : Value} {w10 : Value} {w11 : Value} {w12 : Value} {w13 : Value} {w14 : Value} {w15 : Value} {w16 : Value} {w17 : Value} {w18 : Value} {w19 : Value} {f0 : Nat → Int64} {nw : Nat} {z1 : Value} {z2 : Value} {z3 : Value} {z4 : Value} {z5 : Value} {z6 : Value} {z7 : Value} {z8 : Value} {z9 : Value} {z10 : Value} {z11 : Value} {z12 : Value} {z13 : Value} {z14 : Value} {z15 : Value} {z16 : Value} {t0 : Value} {t1 : Value} {t3 : Value} {t4 : Value} {t5 : Value} {t6 : Value} {t7 : Value} {t8 : Value} {t9 : Value} {t10 : Value} {t12 : Value} {t13 : Value} {t14 : Value} {t15 : Value} {t16 : Value} {t17 : Value} {t18 : Value} {t20 : Value} {t21 : Value} (hP : va_P (dC, dI) classes [(h0, .inr (0, [.ref st, v1, v2, v3, v4, v5, v6, v7, v8, v9, v10])), (st, .inr (8, [.int 0, .int 0, .int 0, w3, w4, w5, w6, w7, w8, w9, w10, w11, w12, w13, w14, w15, w16, w17, w18, w19])), (ou, .inl (dC 101, 1, .inr (.inl f0))), (m0, .inr (10, [.ref nw, z1, z2, z3, z4, z5, z6, z7, z8, z9, z10, z11, z12, z13, z14, z15, z16])), (nw, .inr (12, [t0, t1, .int 0, t3, t4, t5, t6, t7, t8, t9, t10, .int 0, t12, t13, t14, t15, t16, t17, t18, .int 0, t20, t21]))] H) (hD : va_D A [(h0, .inr (0, [.ref st, v1, v2, v3, v4, v5, v6, v7, v8, v9, v10])), (st, .inr (8, [.int 0, .int 0, .int 0, w3, w4, w5, w6, w7, w8, w9, w10, w11, w12, w13, w14, w15, w16, w17, w18, w19])), (ou, .inl (dC 101, 1, .inr (.inl f0))), (m0, .inr (10, [.ref nw, z1, z2, z3, z4, z5, z6, z7, z8, z9, z10, z11, z12, z13, z14, z15, z16])), (nw, .inr (12, [t0, t1, .int 0, t3, t4, t5, t6, t7, t8, t9, t10, .int 0, t12, t13, t14, t15, t16, t17, t18, .int 0, t20, t21]))]) (hS : va_S A s.heap H locs) (hl : lv_has ls 8 [(0, .ref b), (1, .ref h0), (2, .ref m0), (3, .ref ou), (4, .int 0)]) (hend : ∀ (H : Heap) (locs : List Loc) (ls : Array Slot), va_S A s.heap H locs → lv_has ls 8 [(4, .int 0), (0, .ref b)] → W p l e room_1 s m #[Value.ref b] below meth c H locs 600002 7302232 Z (F0 m 3410 ls [])) : W p l e room_1 s m #[Value.ref b] below meth c H locs 403 120029 Z (F0 m 2505 ls []) := by
  subst hL
  refine lv_aload_n hx hb dM_L_law_2505 rfl (lv_at hl 1 rfl) ?_
  refine lv_aload_n hx hb dM_L_law_2506 rfl (lv_at hl 0 rfl) ?_
  refine lv_iload hx hb dM_L_law_2507 (lv_at hl 4 rfl) ?_
  refine lv_iconst (v := 1) hx hb dM_L_law_2509 (by decide) ?_
  refine lv_iadd hx hb dM_L_law_2510 ?_
  refine lv_topi (fun y_1 ey_1 => ?_)
  obtain rfl : y_1 = 1 := ey_1.trans (by decide)
  refine va_sld hx hb hX hbl hbA hS (by unfold vp_in; decide) dM_L_law_2511 ?_
  refine lv_topi (fun y_2 ey_2 => ?_)
  refine lv_aload_n hx hb dM_L_law_2512 rfl (lv_at hl 0 rfl) ?_
  refine lv_iload hx hb dM_L_law_2513 (lv_at hl 4 rfl) ?_
  refine lv_iconst (v := 2) hx hb dM_L_law_2515 (by decide) ?_
  refine lv_iadd hx hb dM_L_law_2516 ?_
  refine lv_topi (fun y_3 ey_3 => ?_)
  obtain rfl : y_3 = 2 := ey_3.trans (by decide)
  refine va_sld hx hb hX hbl hbA hS (by unfold vp_in; decide) dM_L_law_2517 ?_
  refine lv_topi (fun y_4 ey_4 => ?_)
  refine lv_aload_n hx hb dM_L_law_2518 rfl (lv_at hl 3 rfl) ?_
  have hFc := va_free (wc := [(h0, .inr (0, [.ref st, v1, v2, v3, v4, v5, v6, v7, v8, v9, v10])), (st, .inr (8, [.int 0, .int 0, .int 0, w3, w4, w5, w6, w7, w8, w9, w10, w11, w12, w13, w14, w15, w16, w17, w18, w19])), (ou, .inl (dC 101, 1, .inr (.inl f0)))]) hD hS hA [0, 1, 2] rfl
  refine va_calli (vx_runSW (As := [.ref h0, .int y_2, .int y_4, .ref ou]) (rest := []) ⟨hx, hb, hml, hown, hbg⟩ (c_L_insert l hl9 dC dI h0 y_2 y_4 ou st v1 v2 v3 v4 v5 v6 v7 v8 v9 v10 w3 w4 w5 w6 w7 w8 w9 w10 w11 w12 w13 w14 w15 w16 w17 w18 w19 f0 _ ) (vx_cwSW 4 hbg (gd_S (fun _ h => h) wd_1504 wd_1505 wd_0 (gd_wmW (fun _ h => h) wd_1506)) rfl rfl rfl (by decide +kernel) ⟨Nat.le_of_ble_eq_true rfl, Nat.le_of_ble_eq_true rfl⟩) (nPreS [0, 1, 2] hP hD hK hN hS hA (by decide) rfl) rfl rfl hl.1 rfl (lv_room (Nat.le_of_ble_eq_true rfl)) dM_L_law_2519 ⟨Nat.le_of_ble_eq_true rfl, Nat.le_of_ble_eq_true rfl⟩) hS (fun q _ h => hFc q h) hFc (fun r_5 u t H1 locs ht hvm hw hB hz1 hk1 hS => ?_)
  obtain ⟨rfl, hu_7⟩ := hw
  obtain rfl := hu_7.symm
  obtain ⟨hP1, hD1⟩ := hB
  rw [ht] at hP1
  obtain ⟨hP, hD⟩ := va_join (wr := [(m0, .inr (10, [.ref nw, z1, z2, z3, z4, z5, z6, z7, z8, z9, z10, z11, z12, z13, z14, z15, z16])), (nw, .inr (12, [t0, t1, .int 0, t3, t4, t5, t6, t7, t8, t9, t10, .int 0, t12, t13, t14, t15, t16, t17, t18, .int 0, t20, t21]))]) (w1 := [(ou, .inl (dC 101, 1, .inr (.inl f0)))]) hP hD [0, 1, 2] [3, 4] rfl rfl (by decide) (by decide) hk1 hFc hP1 hD1
  generalize H1 = H at hP hS ⊢
  have hP : va_P (dC, dI) classes [(m0, .inr (10, [.ref nw, z1, z2, z3, z4, z5, z6, z7, z8, z9, z10, z11, z12, z13, z14, z15, z16])), (nw, .inr (12, [t0, t1, .int 0, t3, t4, t5, t6, t7, t8, t9, t10, .int 0, t12, t13, t14, t15, t16, t17, t18, .int 0, t20, t21])), (ou, .inl (dC 101, 1, .inr (.inl f0)))] H := hP
  have hD : va_D A [(m0, .inr (10, [.ref nw, z1, z2, z3, z4, z5, z6, z7, z8, z9, z10, z11, z12, z13, z14, z15, z16])), (nw, .inr (12, [t0, t1, .int 0, t3, t4, t5, t6, t7, t8, t9, t10, .int 0, t12, t13, t14, t15, t16, t17, t18, .int 0, t20, t21])), (ou, .inl (dC 101, 1, .inr (.inl f0)))] := hD
  refine W.widen (k := 404) (n := 120035) (Nat.le_of_ble_eq_true rfl) (Nat.le_of_ble_eq_true rfl) ?_
  refine lv_istore (lv' := [(5, .int 1), (0, .ref b), (1, .ref h0), (2, .ref m0), (3, .ref ou), (4, .int 0)]) hx hb dM_L_law_2522 hl (by decide) rfl (fun ls hl => ?_)
  refine lv_aload_n hx hb dM_L_law_2524 rfl (lv_at hl 3 rfl) ?_
  refine lv_aload_n hx hb dM_L_law_2525 rfl (lv_at hl 1 rfl) ?_
  refine lv_iload hx hb dM_L_law_2526 (lv_at hl 5 rfl) ?_
  refine lv_iconst (v := 1) hx hb dM_L_law_2528 (by decide) ?_
  refine lv_iadd hx hb dM_L_law_2529 ?_
  refine lv_topi (fun y_8 ey_8 => ?_)
  obtain rfl : y_8 = 1 := ey_8.trans (by decide)
  refine va_sld hx hb hX hbl hbA hS (by unfold vp_in; decide) dM_L_law_2530 ?_
  refine lv_topi (fun y_9 ey_9 => ?_)
  obtain rfl : y_2 = y_9 := ey_2.trans ey_9.symm
  refine lv_aload_n hx hb dM_L_law_2531 rfl (lv_at hl 1 rfl) ?_
  refine lv_iload hx hb dM_L_law_2532 (lv_at hl 5 rfl) ?_
  refine lv_iconst (v := 2) hx hb dM_L_law_2534 (by decide) ?_
  refine lv_iadd hx hb dM_L_law_2535 ?_
  refine lv_topi (fun y_10 ey_10 => ?_)
  obtain rfl : y_10 = 2 := ey_10.trans (by decide)
  refine va_sld hx hb hX hbl hbA hS (by unfold vp_in; decide) dM_L_law_2536 ?_
  refine lv_topi (fun y_11 ey_11 => ?_)
  obtain rfl : y_4 = y_11 := ey_4.trans ey_11.symm
  have hFc := va_free (wc := [(m0, .inr (10, [.ref nw, z1, z2, z3, z4, z5, z6, z7, z8, z9, z10, z11, z12, z13, z14, z15, z16])), (nw, .inr (12, [t0, t1, .int 0, t3, t4, t5, t6, t7, t8, t9, t10, .int 0, t12, t13, t14, t15, t16, t17, t18, .int 0, t20, t21]))]) hD hS hA [0, 1] rfl
  refine va_calli (va_runV (As := [.int y_2, .int y_4]) (rest := []) ⟨hx, hb, hml, hown, hbg⟩ (c_M_insert l dC dI m0 y_2 y_4 nw z1 z2 z3 z4 z5 z6 z7 z8 z9 z10 z11 z12 z13 z14 z15 z16 t0 t1 t3 t4 t5 t6 t7 t8 t9 t10 t12 t13 t14 t15 t16 t17 t18 t20 t21 _ ) (cwV 2 hbg (gd_V (fun _ h => h) wd_2763 wd_2764 wd_2765 wd_12 (gd_wm (fun _ h => h) wd_2766)) rfl rfl rfl (by decide +kernel) ⟨Nat.le_of_ble_eq_true rfl, Nat.le_of_ble_eq_true rfl⟩) (nPreV [0, 1] hP hD hK hN hS hA (by decide) rfl 0 rfl rfl) rfl rfl hl.1 rfl (lv_room (Nat.le_of_ble_eq_true rfl)) dM_L_law_2537 ⟨Nat.le_of_ble_eq_true rfl, Nat.le_of_ble_eq_true rfl⟩) hS (fun q _ h => hFc q h) hFc (fun r_12 u t H1 locs ht hvm hw hB hz1 hk1 hS => ?_)
  obtain ⟨rfl, rfl⟩ := hw
  obtain ⟨r0_14, r1_15, r2_16, r3_17, r4_18, r5_19, r6_20, r7_21, r8_22, r9_23, r10_24, r11_25, r12_26, r13_27, r14_28, r15_29, hP1, hD1⟩ := hB
  rw [ht] at hP1
  obtain ⟨hP, hD⟩ := va_join (wr := [(ou, .inl (dC 101, 1, .inr (.inl f0)))]) (w1 := [(m0, .inr (10, [r0_14, r1_15, r2_16, r3_17, r4_18, r5_19, r6_20, r7_21, r8_22, r9_23, r10_24, r11_25, r12_26, r13_27, r14_28, r15_29, .int 1]))]) hP hD [0, 1] [2] rfl rfl (by decide) (by decide) hk1 hFc hP1 hD1
  generalize H1 = H at hP hS ⊢
  have hP : va_P (dC, dI) classes [(ou, .inl (dC 101, 1, .inr (.inl f0))), (m0, .inr (10, [r0_14, r1_15, r2_16, r3_17, r4_18, r5_19, r6_20, r7_21, r8_22, r9_23, r10_24, r11_25, r12_26, r13_27, r14_28, r15_29, .int 1]))] H := hP
  have hD : va_D A [(ou, .inl (dC 101, 1, .inr (.inl f0))), (m0, .inr (10, [r0_14, r1_15, r2_16, r3_17, r4_18, r5_19, r6_20, r7_21, r8_22, r9_23, r10_24, r11_25, r12_26, r13_27, r14_28, r15_29, .int 1]))] := hD
  refine W.widen (k := 404) (n := 120035) (Nat.le_of_ble_eq_true rfl) (Nat.le_of_ble_eq_true rfl) ?_
  refine lv_istore (lv' := [(6, .int 0), (5, .int 1), (0, .ref b), (1, .ref h0), (2, .ref m0), (3, .ref ou), (4, .int 0)]) hx hb dM_L_law_2540 hl (by decide) rfl (fun ls hl => ?_)
  refine lv_aload_n hx hb dM_L_law_2542 rfl (lv_at hl 4 rfl) ?_
  have hFc := va_free (wc := [(m0, .inr (10, [r0_14, r1_15, r2_16, r3_17, r4_18, r5_19, r6_20, r7_21, r8_22, r9_23, r10_24, r11_25, r12_26, r13_27, r14_28, r15_29, .int 1]))]) hD hS hA [1] rfl
  refine va_calli (va_runV (As := []) (rest := []) ⟨hx, hb, hml, hown, hbg⟩ (c_M_thrown l dC dI m0 r0_14 r1_15 r2_16 r3_17 r4_18 r5_19 r6_20 r7_21 r8_22 r9_23 r10_24 r11_25 r12_26 r13_27 r14_28 r15_29 1 _ ) (cwV 0 hbg (gd_V (fun _ h => h) wd_2190 wd_2191 wd_2192 wd_12 (gd_wm (fun _ h => h) wd_2193)) rfl rfl rfl (by decide +kernel) ⟨Nat.le_of_ble_eq_true rfl, Nat.le_of_ble_eq_true rfl⟩) (nPreV [1] hP hD hK hN hS hA (by decide) rfl 1 rfl rfl) rfl rfl hl.1 rfl (lv_room (Nat.le_of_ble_eq_true rfl)) dM_L_law_2543 ⟨Nat.le_of_ble_eq_true rfl, Nat.le_of_ble_eq_true rfl⟩) hS (fun q _ h => hFc q h) hFc (fun r_30 u t H1 locs ht hvm hw hB hz1 hk1 hS => ?_)
  obtain ⟨rfl, rfl⟩ := hw
  obtain ⟨r0_32, r1_33, r2_34, r3_35, r4_36, r5_37, r6_38, r7_39, r8_40, r9_41, r10_42, r11_43, r12_44, r13_45, r14_46, r15_47, hP1, hD1⟩ := hB
  rw [ht] at hP1
  obtain ⟨hP, hD⟩ := va_join (wr := [(ou, .inl (dC 101, 1, .inr (.inl f0)))]) (w1 := [(m0, .inr (10, [r0_32, r1_33, r2_34, r3_35, r4_36, r5_37, r6_38, r7_39, r8_40, r9_41, r10_42, r11_43, r12_44, r13_45, r14_46, r15_47, .int 1]))]) hP hD [1] [0] rfl rfl (by decide) (by decide) hk1 hFc hP1 hD1
  generalize H1 = H at hP hS ⊢
  have hP : va_P (dC, dI) classes [(ou, .inl (dC 101, 1, .inr (.inl f0))), (m0, .inr (10, [r0_32, r1_33, r2_34, r3_35, r4_36, r5_37, r6_38, r7_39, r8_40, r9_41, r10_42, r11_43, r12_44, r13_45, r14_46, r15_47, .int 1]))] H := hP
  have hD : va_D A [(ou, .inl (dC 101, 1, .inr (.inl f0))), (m0, .inr (10, [r0_32, r1_33, r2_34, r3_35, r4_36, r5_37, r6_38, r7_39, r8_40, r9_41, r10_42, r11_43, r12_44, r13_45, r14_46, r15_47, .int 1]))] := hD
  refine W.widen (k := 404) (n := 120035) (Nat.le_of_ble_eq_true rfl) (Nat.le_of_ble_eq_true rfl) ?_
  refine lv_iload hx hb dM_L_law_2546 (lv_at hl 1 rfl) ?_
  refine lv_icmp_eq (tgt := 2553) hx hb dM_L_law_2548 (by decide) (fun _ => ?_) (fun q => absurd (by decide) q)
  refine lv_iload hx hb dM_L_law_2553 (lv_at hl 1 rfl) ?_
  refine lv_if_ne (tgt := 2570) hx hb dM_L_law_2555 (by decide) (fun _ => ?_) (fun q => absurd q (by decide))
  refine lv_goto (tgt := 3410) hx hb dM_L_law_2570 (by decide) ?_
  refine W.widen (k := 600002) (n := 7302232) (Nat.le_of_ble_eq_true rfl) (Nat.le_of_ble_eq_true rfl) ?_
  exact hend _ _ _ hS (lv_sub hl [6, 2] rfl)
set_option maxHeartbeats 4000000 in
set_option maxRecDepth 100000 in
theorem lawc_34 {p : Program} {e : Env} {s : State} {m : MethodId} {below : List Frame} {meth : Method} {c : Code} {Z : State → Prop} (l : Launch) (hl9 : l.stackTraces = false) (dC : Nat → ClassId) (dI : Nat → Nat → Nat) {A : Nat → Prop} {b L : Nat} {xs : Nat → Int32} (hL : L = 8) (hx : p.tables.exec = Jvm.exec) (hb : c.code = cM_L_law) (hml : c.maxLocals = 8) (hown : s.vm.findClass "NoteDocumentLaw" = some m.cls) (hbg : ∀ w ∈ BIG, w.before #[Value.ref b] s = true) (hK : nK (dC, dI) s) (hN : nS A s s.heap) (hA : ∀ q : Nat, s.heap.size ≤ q → A q) (hX : va_X b L xs s s.heap) (hbl : b < s.heap.size) (hbA : ¬ A b) {H : Heap} {locs : List Loc} {ls : Array Slot} {h0 : Nat} {m0 : Nat} {ou : Nat} {st : Nat} {v1 : Value} {v2 : Value} {v3 : Value} {v4 : Value} {v5 : Value} {v6 : Value} {v7 : Value} {v8 : Value} {v9 : Value} {v10 : Value} {w3 : Value} {w4 : Value} {w5 : Value} {w6 : Value} {w7 : Value} {w8 : Value} {w9 : Value} {w10 : Value} {w11 : Value} {w12 : Value} {w13 : Value} {w14 : Value} {w15 : Value} {w16 : Value} {w17 : Value} {w18 : Value} {w19 : Value} {f0 : Nat → Int64} {nw : Nat} {z1 : Value} {z2 : Value} {z3 : Value} {z4 : Value} {z5 : Value} {z6 : Value} {z7 : Value} {z8 : Value} {z9 : Value} {z10 : Value} {z11 : Value} {z12 : Value} {z13 : Value} {z14 : Value} {z15 : Value} {z16 : Value} {t0 : Value} {t1 : Value} {t3 : Value} {t4 : Value} {t5 : Value} {t6 : Value} {t7 : Value} {t8 : Value} {t9 : Value} {t10 : Value} {t12 : Value} {t13 : Value} {t14 : Value} {t15 : Value} {t16 : Value} {t17 : Value} {t18 : Value} {t20 : Value} {t21 : Value} (hP : va_P (dC, dI) classes [(h0, .inr (0, [.ref st, v1, v2, v3, v4, v5, v6, v7, v8, v9, v10])), (st, .inr (8, [.int 0, .int 0, .int 0, w3, w4, w5, w6, w7, w8, w9, w10, w11, w12, w13, w14, w15, w16, w17, w18, w19])), (ou, .inl (dC 101, 1, .inr (.inl f0))), (m0, .inr (10, [.ref nw, z1, z2, z3, z4, z5, z6, z7, z8, z9, z10, z11, z12, z13, z14, z15, z16])), (nw, .inr (12, [t0, t1, .int 0, t3, t4, t5, t6, t7, t8, t9, t10, .int 0, t12, t13, t14, t15, t16, t17, t18, .int 0, t20, t21]))] H) (hD : va_D A [(h0, .inr (0, [.ref st, v1, v2, v3, v4, v5, v6, v7, v8, v9, v10])), (st, .inr (8, [.int 0, .int 0, .int 0, w3, w4, w5, w6, w7, w8, w9, w10, w11, w12, w13, w14, w15, w16, w17, w18, w19])), (ou, .inl (dC 101, 1, .inr (.inl f0))), (m0, .inr (10, [.ref nw, z1, z2, z3, z4, z5, z6, z7, z8, z9, z10, z11, z12, z13, z14, z15, z16])), (nw, .inr (12, [t0, t1, .int 0, t3, t4, t5, t6, t7, t8, t9, t10, .int 0, t12, t13, t14, t15, t16, t17, t18, .int 0, t20, t21]))]) (hS : va_S A s.heap H locs) (hl : lv_has ls 8 [(0, .ref b), (1, .ref h0), (2, .ref m0), (3, .ref ou), (4, .int 0)]) (hend : ∀ (H : Heap) (locs : List Loc) (ls : Array Slot), va_S A s.heap H locs → lv_has ls 8 [(4, .int 0), (0, .ref b)] → W p l e room_1 s m #[Value.ref b] below meth c H locs 600002 7302232 Z (F0 m 3410 ls [])) : W p l e room_1 s m #[Value.ref b] below meth c H locs 403 120029 Z (F0 m 2573 ls []) := by
  subst hL
  refine lv_aload_n hx hb dM_L_law_2573 rfl (lv_at hl 1 rfl) ?_
  refine lv_aload_n hx hb dM_L_law_2574 rfl (lv_at hl 0 rfl) ?_
  refine lv_iload hx hb dM_L_law_2575 (lv_at hl 4 rfl) ?_
  refine lv_iconst (v := 1) hx hb dM_L_law_2577 (by decide) ?_
  refine lv_iadd hx hb dM_L_law_2578 ?_
  refine lv_topi (fun y_1 ey_1 => ?_)
  obtain rfl : y_1 = 1 := ey_1.trans (by decide)
  refine va_sld hx hb hX hbl hbA hS (by unfold vp_in; decide) dM_L_law_2579 ?_
  refine lv_topi (fun y_2 ey_2 => ?_)
  refine lv_aload_n hx hb dM_L_law_2580 rfl (lv_at hl 0 rfl) ?_
  refine lv_iload hx hb dM_L_law_2581 (lv_at hl 4 rfl) ?_
  refine lv_iconst (v := 2) hx hb dM_L_law_2583 (by decide) ?_
  refine lv_iadd hx hb dM_L_law_2584 ?_
  refine lv_topi (fun y_3 ey_3 => ?_)
  obtain rfl : y_3 = 2 := ey_3.trans (by decide)
  refine va_sld hx hb hX hbl hbA hS (by unfold vp_in; decide) dM_L_law_2585 ?_
  refine lv_topi (fun y_4 ey_4 => ?_)
  refine lv_aload_n hx hb dM_L_law_2586 rfl (lv_at hl 3 rfl) ?_
  have hFc := va_free (wc := [(h0, .inr (0, [.ref st, v1, v2, v3, v4, v5, v6, v7, v8, v9, v10])), (st, .inr (8, [.int 0, .int 0, .int 0, w3, w4, w5, w6, w7, w8, w9, w10, w11, w12, w13, w14, w15, w16, w17, w18, w19])), (ou, .inl (dC 101, 1, .inr (.inl f0)))]) hD hS hA [0, 1, 2] rfl
  refine va_calli (vx_runSW (As := [.ref h0, .int y_2, .int y_4, .ref ou]) (rest := []) ⟨hx, hb, hml, hown, hbg⟩ (c_L_remove l hl9 dC dI h0 y_2 y_4 ou st v1 v2 v3 v4 v5 v6 v7 v8 v9 v10 w3 w4 w5 w6 w7 w8 w9 w10 w11 w12 w13 w14 w15 w16 w17 w18 w19 f0 _ ) (vx_cwSW 4 hbg (gd_S (fun _ h => h) wd_1807 wd_1808 wd_0 (gd_wmW (fun _ h => h) wd_1809)) rfl rfl rfl (by decide +kernel) ⟨Nat.le_of_ble_eq_true rfl, Nat.le_of_ble_eq_true rfl⟩) (nPreS [0, 1, 2] hP hD hK hN hS hA (by decide) rfl) rfl rfl hl.1 rfl (lv_room (Nat.le_of_ble_eq_true rfl)) dM_L_law_2587 ⟨Nat.le_of_ble_eq_true rfl, Nat.le_of_ble_eq_true rfl⟩) hS (fun q _ h => hFc q h) hFc (fun r_5 u t H1 locs ht hvm hw hB hz1 hk1 hS => ?_)
  obtain ⟨rfl, hu_7⟩ := hw
  obtain rfl := hu_7.symm
  obtain ⟨hP1, hD1⟩ := hB
  rw [ht] at hP1
  obtain ⟨hP, hD⟩ := va_join (wr := [(m0, .inr (10, [.ref nw, z1, z2, z3, z4, z5, z6, z7, z8, z9, z10, z11, z12, z13, z14, z15, z16])), (nw, .inr (12, [t0, t1, .int 0, t3, t4, t5, t6, t7, t8, t9, t10, .int 0, t12, t13, t14, t15, t16, t17, t18, .int 0, t20, t21]))]) (w1 := [(ou, .inl (dC 101, 1, .inr (.inl f0)))]) hP hD [0, 1, 2] [3, 4] rfl rfl (by decide) (by decide) hk1 hFc hP1 hD1
  generalize H1 = H at hP hS ⊢
  have hP : va_P (dC, dI) classes [(m0, .inr (10, [.ref nw, z1, z2, z3, z4, z5, z6, z7, z8, z9, z10, z11, z12, z13, z14, z15, z16])), (nw, .inr (12, [t0, t1, .int 0, t3, t4, t5, t6, t7, t8, t9, t10, .int 0, t12, t13, t14, t15, t16, t17, t18, .int 0, t20, t21])), (ou, .inl (dC 101, 1, .inr (.inl f0)))] H := hP
  have hD : va_D A [(m0, .inr (10, [.ref nw, z1, z2, z3, z4, z5, z6, z7, z8, z9, z10, z11, z12, z13, z14, z15, z16])), (nw, .inr (12, [t0, t1, .int 0, t3, t4, t5, t6, t7, t8, t9, t10, .int 0, t12, t13, t14, t15, t16, t17, t18, .int 0, t20, t21])), (ou, .inl (dC 101, 1, .inr (.inl f0)))] := hD
  refine W.widen (k := 404) (n := 120035) (Nat.le_of_ble_eq_true rfl) (Nat.le_of_ble_eq_true rfl) ?_
  refine lv_istore (lv' := [(5, .int 1), (0, .ref b), (1, .ref h0), (2, .ref m0), (3, .ref ou), (4, .int 0)]) hx hb dM_L_law_2590 hl (by decide) rfl (fun ls hl => ?_)
  refine lv_aload_n hx hb dM_L_law_2592 rfl (lv_at hl 3 rfl) ?_
  refine lv_aload_n hx hb dM_L_law_2593 rfl (lv_at hl 1 rfl) ?_
  refine lv_iload hx hb dM_L_law_2594 (lv_at hl 5 rfl) ?_
  refine lv_iconst (v := 1) hx hb dM_L_law_2596 (by decide) ?_
  refine lv_iadd hx hb dM_L_law_2597 ?_
  refine lv_topi (fun y_8 ey_8 => ?_)
  obtain rfl : y_8 = 1 := ey_8.trans (by decide)
  refine va_sld hx hb hX hbl hbA hS (by unfold vp_in; decide) dM_L_law_2598 ?_
  refine lv_topi (fun y_9 ey_9 => ?_)
  obtain rfl : y_2 = y_9 := ey_2.trans ey_9.symm
  refine lv_aload_n hx hb dM_L_law_2599 rfl (lv_at hl 1 rfl) ?_
  refine lv_iload hx hb dM_L_law_2600 (lv_at hl 5 rfl) ?_
  refine lv_iconst (v := 2) hx hb dM_L_law_2602 (by decide) ?_
  refine lv_iadd hx hb dM_L_law_2603 ?_
  refine lv_topi (fun y_10 ey_10 => ?_)
  obtain rfl : y_10 = 2 := ey_10.trans (by decide)
  refine va_sld hx hb hX hbl hbA hS (by unfold vp_in; decide) dM_L_law_2604 ?_
  refine lv_topi (fun y_11 ey_11 => ?_)
  obtain rfl : y_4 = y_11 := ey_4.trans ey_11.symm
  have hFc := va_free (wc := [(m0, .inr (10, [.ref nw, z1, z2, z3, z4, z5, z6, z7, z8, z9, z10, z11, z12, z13, z14, z15, z16])), (nw, .inr (12, [t0, t1, .int 0, t3, t4, t5, t6, t7, t8, t9, t10, .int 0, t12, t13, t14, t15, t16, t17, t18, .int 0, t20, t21]))]) hD hS hA [0, 1] rfl
  refine va_calli (va_runV (As := [.int y_2, .int y_4]) (rest := []) ⟨hx, hb, hml, hown, hbg⟩ (c_M_remove l dC dI m0 y_2 y_4 nw z1 z2 z3 z4 z5 z6 z7 z8 z9 z10 z11 z12 z13 z14 z15 z16 t0 t1 t3 t4 t5 t6 t7 t8 t9 t10 t12 t13 t14 t15 t16 t17 t18 t20 t21 _ ) (cwV 2 hbg (gd_V (fun _ h => h) wd_2795 wd_2796 wd_2797 wd_12 (gd_wm (fun _ h => h) wd_2798)) rfl rfl rfl (by decide +kernel) ⟨Nat.le_of_ble_eq_true rfl, Nat.le_of_ble_eq_true rfl⟩) (nPreV [0, 1] hP hD hK hN hS hA (by decide) rfl 0 rfl rfl) rfl rfl hl.1 rfl (lv_room (Nat.le_of_ble_eq_true rfl)) dM_L_law_2605 ⟨Nat.le_of_ble_eq_true rfl, Nat.le_of_ble_eq_true rfl⟩) hS (fun q _ h => hFc q h) hFc (fun r_12 u t H1 locs ht hvm hw hB hz1 hk1 hS => ?_)
  obtain ⟨rfl, rfl⟩ := hw
  obtain ⟨r0_14, r1_15, r2_16, r3_17, r4_18, r5_19, r6_20, r7_21, r8_22, r9_23, r10_24, r11_25, r12_26, r13_27, r14_28, r15_29, hP1, hD1⟩ := hB
  rw [ht] at hP1
  obtain ⟨hP, hD⟩ := va_join (wr := [(ou, .inl (dC 101, 1, .inr (.inl f0)))]) (w1 := [(m0, .inr (10, [r0_14, r1_15, r2_16, r3_17, r4_18, r5_19, r6_20, r7_21, r8_22, r9_23, r10_24, r11_25, r12_26, r13_27, r14_28, r15_29, .int 1]))]) hP hD [0, 1] [2] rfl rfl (by decide) (by decide) hk1 hFc hP1 hD1
  generalize H1 = H at hP hS ⊢
  have hP : va_P (dC, dI) classes [(ou, .inl (dC 101, 1, .inr (.inl f0))), (m0, .inr (10, [r0_14, r1_15, r2_16, r3_17, r4_18, r5_19, r6_20, r7_21, r8_22, r9_23, r10_24, r11_25, r12_26, r13_27, r14_28, r15_29, .int 1]))] H := hP
  have hD : va_D A [(ou, .inl (dC 101, 1, .inr (.inl f0))), (m0, .inr (10, [r0_14, r1_15, r2_16, r3_17, r4_18, r5_19, r6_20, r7_21, r8_22, r9_23, r10_24, r11_25, r12_26, r13_27, r14_28, r15_29, .int 1]))] := hD
  refine W.widen (k := 404) (n := 120035) (Nat.le_of_ble_eq_true rfl) (Nat.le_of_ble_eq_true rfl) ?_
  refine lv_istore (lv' := [(6, .int 0), (5, .int 1), (0, .ref b), (1, .ref h0), (2, .ref m0), (3, .ref ou), (4, .int 0)]) hx hb dM_L_law_2608 hl (by decide) rfl (fun ls hl => ?_)
  refine lv_aload_n hx hb dM_L_law_2610 rfl (lv_at hl 4 rfl) ?_
  have hFc := va_free (wc := [(m0, .inr (10, [r0_14, r1_15, r2_16, r3_17, r4_18, r5_19, r6_20, r7_21, r8_22, r9_23, r10_24, r11_25, r12_26, r13_27, r14_28, r15_29, .int 1]))]) hD hS hA [1] rfl
  refine va_calli (va_runV (As := []) (rest := []) ⟨hx, hb, hml, hown, hbg⟩ (c_M_thrown l dC dI m0 r0_14 r1_15 r2_16 r3_17 r4_18 r5_19 r6_20 r7_21 r8_22 r9_23 r10_24 r11_25 r12_26 r13_27 r14_28 r15_29 1 _ ) (cwV 0 hbg (gd_V (fun _ h => h) wd_2190 wd_2191 wd_2192 wd_12 (gd_wm (fun _ h => h) wd_2193)) rfl rfl rfl (by decide +kernel) ⟨Nat.le_of_ble_eq_true rfl, Nat.le_of_ble_eq_true rfl⟩) (nPreV [1] hP hD hK hN hS hA (by decide) rfl 1 rfl rfl) rfl rfl hl.1 rfl (lv_room (Nat.le_of_ble_eq_true rfl)) dM_L_law_2611 ⟨Nat.le_of_ble_eq_true rfl, Nat.le_of_ble_eq_true rfl⟩) hS (fun q _ h => hFc q h) hFc (fun r_30 u t H1 locs ht hvm hw hB hz1 hk1 hS => ?_)
  obtain ⟨rfl, rfl⟩ := hw
  obtain ⟨r0_32, r1_33, r2_34, r3_35, r4_36, r5_37, r6_38, r7_39, r8_40, r9_41, r10_42, r11_43, r12_44, r13_45, r14_46, r15_47, hP1, hD1⟩ := hB
  rw [ht] at hP1
  obtain ⟨hP, hD⟩ := va_join (wr := [(ou, .inl (dC 101, 1, .inr (.inl f0)))]) (w1 := [(m0, .inr (10, [r0_32, r1_33, r2_34, r3_35, r4_36, r5_37, r6_38, r7_39, r8_40, r9_41, r10_42, r11_43, r12_44, r13_45, r14_46, r15_47, .int 1]))]) hP hD [1] [0] rfl rfl (by decide) (by decide) hk1 hFc hP1 hD1
  generalize H1 = H at hP hS ⊢
  have hP : va_P (dC, dI) classes [(ou, .inl (dC 101, 1, .inr (.inl f0))), (m0, .inr (10, [r0_32, r1_33, r2_34, r3_35, r4_36, r5_37, r6_38, r7_39, r8_40, r9_41, r10_42, r11_43, r12_44, r13_45, r14_46, r15_47, .int 1]))] H := hP
  have hD : va_D A [(ou, .inl (dC 101, 1, .inr (.inl f0))), (m0, .inr (10, [r0_32, r1_33, r2_34, r3_35, r4_36, r5_37, r6_38, r7_39, r8_40, r9_41, r10_42, r11_43, r12_44, r13_45, r14_46, r15_47, .int 1]))] := hD
  refine W.widen (k := 404) (n := 120035) (Nat.le_of_ble_eq_true rfl) (Nat.le_of_ble_eq_true rfl) ?_
  refine lv_iload hx hb dM_L_law_2614 (lv_at hl 1 rfl) ?_
  refine lv_icmp_eq (tgt := 2621) hx hb dM_L_law_2616 (by decide) (fun _ => ?_) (fun q => absurd (by decide) q)
  refine lv_iload hx hb dM_L_law_2621 (lv_at hl 1 rfl) ?_
  refine lv_if_ne (tgt := 2638) hx hb dM_L_law_2623 (by decide) (fun _ => ?_) (fun q => absurd q (by decide))
  refine lv_goto (tgt := 3410) hx hb dM_L_law_2638 (by decide) ?_
  refine W.widen (k := 600002) (n := 7302232) (Nat.le_of_ble_eq_true rfl) (Nat.le_of_ble_eq_true rfl) ?_
  exact hend _ _ _ hS (lv_sub hl [6, 2] rfl)
set_option maxHeartbeats 4000000 in
set_option maxRecDepth 100000 in
theorem lawc_35 {p : Program} {e : Env} {s : State} {m : MethodId} {below : List Frame} {meth : Method} {c : Code} {Z : State → Prop} (l : Launch) (hl9 : l.stackTraces = false) (dC : Nat → ClassId) (dI : Nat → Nat → Nat) {A : Nat → Prop} {b L : Nat} {xs : Nat → Int32} (hL : L = 8) (hx : p.tables.exec = Jvm.exec) (hb : c.code = cM_L_law) (hml : c.maxLocals = 8) (hown : s.vm.findClass "NoteDocumentLaw" = some m.cls) (hbg : ∀ w ∈ BIG, w.before #[Value.ref b] s = true) (hK : nK (dC, dI) s) (hN : nS A s s.heap) (hA : ∀ q : Nat, s.heap.size ≤ q → A q) (hX : va_X b L xs s s.heap) (hbl : b < s.heap.size) (hbA : ¬ A b) {H : Heap} {locs : List Loc} {ls : Array Slot} {h0 : Nat} {m0 : Nat} {ou : Nat} {st : Nat} {v1 : Value} {v2 : Value} {v3 : Value} {v4 : Value} {v5 : Value} {v6 : Value} {v7 : Value} {v8 : Value} {v9 : Value} {v10 : Value} {w3 : Value} {w4 : Value} {w5 : Value} {w6 : Value} {w7 : Value} {w8 : Value} {w9 : Value} {w10 : Value} {w11 : Value} {w12 : Value} {w13 : Value} {w14 : Value} {w15 : Value} {w16 : Value} {w17 : Value} {w18 : Value} {w19 : Value} {f0 : Nat → Int64} {nw : Nat} {z1 : Value} {z2 : Value} {z3 : Value} {z4 : Value} {z5 : Value} {z6 : Value} {z7 : Value} {z8 : Value} {z9 : Value} {z10 : Value} {z11 : Value} {z12 : Value} {z13 : Value} {z14 : Value} {z15 : Value} {z16 : Value} {t0 : Value} {t1 : Value} {t3 : Value} {t4 : Value} {t5 : Value} {t6 : Value} {t7 : Value} {t8 : Value} {t9 : Value} {t10 : Value} {t12 : Value} {t13 : Value} {t14 : Value} {t15 : Value} {t16 : Value} {t17 : Value} {t18 : Value} {t20 : Value} {t21 : Value} (hP : va_P (dC, dI) classes [(h0, .inr (0, [.ref st, v1, v2, v3, v4, v5, v6, v7, v8, v9, v10])), (st, .inr (8, [.int 0, .int 0, .int 0, w3, w4, w5, w6, w7, w8, w9, w10, w11, w12, w13, w14, w15, w16, w17, w18, w19])), (ou, .inl (dC 101, 1, .inr (.inl f0))), (m0, .inr (10, [.ref nw, z1, z2, z3, z4, z5, z6, z7, z8, z9, z10, z11, z12, z13, z14, z15, z16])), (nw, .inr (12, [t0, t1, .int 0, t3, t4, t5, t6, t7, t8, t9, t10, .int 0, t12, t13, t14, t15, t16, t17, t18, .int 0, t20, t21]))] H) (hD : va_D A [(h0, .inr (0, [.ref st, v1, v2, v3, v4, v5, v6, v7, v8, v9, v10])), (st, .inr (8, [.int 0, .int 0, .int 0, w3, w4, w5, w6, w7, w8, w9, w10, w11, w12, w13, w14, w15, w16, w17, w18, w19])), (ou, .inl (dC 101, 1, .inr (.inl f0))), (m0, .inr (10, [.ref nw, z1, z2, z3, z4, z5, z6, z7, z8, z9, z10, z11, z12, z13, z14, z15, z16])), (nw, .inr (12, [t0, t1, .int 0, t3, t4, t5, t6, t7, t8, t9, t10, .int 0, t12, t13, t14, t15, t16, t17, t18, .int 0, t20, t21]))]) (hS : va_S A s.heap H locs) (hl : lv_has ls 8 [(0, .ref b), (1, .ref h0), (2, .ref m0), (3, .ref ou), (4, .int 0)]) (hend : ∀ (H : Heap) (locs : List Loc) (ls : Array Slot), va_S A s.heap H locs → lv_has ls 8 [(4, .int 0), (0, .ref b)] → W p l e room_1 s m #[Value.ref b] below meth c H locs 600002 7302232 Z (F0 m 3410 ls [])) : W p l e room_1 s m #[Value.ref b] below meth c H locs 403 120029 Z (F0 m 2641 ls []) := by
  subst hL
  refine lv_aload_n hx hb dM_L_law_2641 rfl (lv_at hl 1 rfl) ?_
  refine lv_aload_n hx hb dM_L_law_2642 rfl (lv_at hl 0 rfl) ?_
  refine lv_iload hx hb dM_L_law_2643 (lv_at hl 4 rfl) ?_
  refine lv_iconst (v := 1) hx hb dM_L_law_2645 (by decide) ?_
  refine lv_iadd hx hb dM_L_law_2646 ?_
  refine lv_topi (fun y_1 ey_1 => ?_)
  obtain rfl : y_1 = 1 := ey_1.trans (by decide)
  refine va_sld hx hb hX hbl hbA hS (by unfold vp_in; decide) dM_L_law_2647 ?_
  refine lv_topi (fun y_2 ey_2 => ?_)
  refine lv_aload_n hx hb dM_L_law_2648 rfl (lv_at hl 0 rfl) ?_
  refine lv_iload hx hb dM_L_law_2649 (lv_at hl 4 rfl) ?_
  refine lv_iconst (v := 2) hx hb dM_L_law_2651 (by decide) ?_
  refine lv_iadd hx hb dM_L_law_2652 ?_
  refine lv_topi (fun y_3 ey_3 => ?_)
  obtain rfl : y_3 = 2 := ey_3.trans (by decide)
  refine va_sld hx hb hX hbl hbA hS (by unfold vp_in; decide) dM_L_law_2653 ?_
  refine lv_topi (fun y_4 ey_4 => ?_)
  refine lv_aload_n hx hb dM_L_law_2654 rfl (lv_at hl 0 rfl) ?_
  refine lv_iload hx hb dM_L_law_2655 (lv_at hl 4 rfl) ?_
  refine lv_iconst (v := 3) hx hb dM_L_law_2657 (by decide) ?_
  refine lv_iadd hx hb dM_L_law_2658 ?_
  refine lv_topi (fun y_5 ey_5 => ?_)
  obtain rfl : y_5 = 3 := ey_5.trans (by decide)
  refine va_sld hx hb hX hbl hbA hS (by unfold vp_in; decide) dM_L_law_2659 ?_
  refine lv_topi (fun y_6 ey_6 => ?_)
  refine lv_aload_n hx hb dM_L_law_2660 rfl (lv_at hl 0 rfl) ?_
  refine lv_iload hx hb dM_L_law_2661 (lv_at hl 4 rfl) ?_
  refine lv_iconst (v := 4) hx hb dM_L_law_2663 (by decide) ?_
  refine lv_iadd hx hb dM_L_law_2664 ?_
  refine lv_topi (fun y_7 ey_7 => ?_)
  obtain rfl : y_7 = 4 := ey_7.trans (by decide)
  refine va_sld hx hb hX hbl hbA hS (by unfold vp_in; decide) dM_L_law_2665 ?_
  refine lv_topi (fun y_8 ey_8 => ?_)
  refine lv_aload_n hx hb dM_L_law_2666 rfl (lv_at hl 0 rfl) ?_
  refine lv_iload hx hb dM_L_law_2667 (lv_at hl 4 rfl) ?_
  refine lv_iconst (v := 5) hx hb dM_L_law_2669 (by decide) ?_
  refine lv_iadd hx hb dM_L_law_2670 ?_
  refine lv_topi (fun y_9 ey_9 => ?_)
  obtain rfl : y_9 = 5 := ey_9.trans (by decide)
  refine va_sld hx hb hX hbl hbA hS (by unfold vp_in; decide) dM_L_law_2671 ?_
  refine lv_topi (fun y_10 ey_10 => ?_)
  refine lv_aload_n hx hb dM_L_law_2672 rfl (lv_at hl 3 rfl) ?_
  have hFc := va_free (wc := [(h0, .inr (0, [.ref st, v1, v2, v3, v4, v5, v6, v7, v8, v9, v10])), (st, .inr (8, [.int 0, .int 0, .int 0, w3, w4, w5, w6, w7, w8, w9, w10, w11, w12, w13, w14, w15, w16, w17, w18, w19])), (ou, .inl (dC 101, 1, .inr (.inl f0)))]) hD hS hA [0, 1, 2] rfl
  refine va_calli (vx_runSW (As := [.ref h0, .int y_2, .int y_4, .int y_6, .int y_8, .int y_10, .ref ou]) (rest := []) ⟨hx, hb, hml, hown, hbg⟩ (c_L_move l hl9 dC dI h0 y_2 y_4 y_6 y_8 y_10 ou st v1 v2 v3 v4 v5 v6 v7 v8 v9 v10 w3 w4 w5 w6 w7 w8 w9 w10 w11 w12 w13 w14 w15 w16 w17 w18 w19 f0 _ ) (vx_cwSW 7 hbg (gd_S (fun _ h => h) wd_1819 wd_1820 wd_0 (gd_wmW (fun _ h => h) wd_1821)) rfl rfl rfl (by decide +kernel) ⟨Nat.le_of_ble_eq_true rfl, Nat.le_of_ble_eq_true rfl⟩) (nPreS [0, 1, 2] hP hD hK hN hS hA (by decide) rfl) rfl rfl hl.1 rfl (lv_room (Nat.le_of_ble_eq_true rfl)) dM_L_law_2673 ⟨Nat.le_of_ble_eq_true rfl, Nat.le_of_ble_eq_true rfl⟩) hS (fun q _ h => hFc q h) hFc (fun r_11 u t H1 locs ht hvm hw hB hz1 hk1 hS => ?_)
  obtain ⟨rfl, hu_13⟩ := hw
  obtain rfl := hu_13.symm
  obtain ⟨hP1, hD1⟩ := hB
  rw [ht] at hP1
  obtain ⟨hP, hD⟩ := va_join (wr := [(m0, .inr (10, [.ref nw, z1, z2, z3, z4, z5, z6, z7, z8, z9, z10, z11, z12, z13, z14, z15, z16])), (nw, .inr (12, [t0, t1, .int 0, t3, t4, t5, t6, t7, t8, t9, t10, .int 0, t12, t13, t14, t15, t16, t17, t18, .int 0, t20, t21]))]) (w1 := [(ou, .inl (dC 101, 1, .inr (.inl f0)))]) hP hD [0, 1, 2] [3, 4] rfl rfl (by decide) (by decide) hk1 hFc hP1 hD1
  generalize H1 = H at hP hS ⊢
  have hP : va_P (dC, dI) classes [(m0, .inr (10, [.ref nw, z1, z2, z3, z4, z5, z6, z7, z8, z9, z10, z11, z12, z13, z14, z15, z16])), (nw, .inr (12, [t0, t1, .int 0, t3, t4, t5, t6, t7, t8, t9, t10, .int 0, t12, t13, t14, t15, t16, t17, t18, .int 0, t20, t21])), (ou, .inl (dC 101, 1, .inr (.inl f0)))] H := hP
  have hD : va_D A [(m0, .inr (10, [.ref nw, z1, z2, z3, z4, z5, z6, z7, z8, z9, z10, z11, z12, z13, z14, z15, z16])), (nw, .inr (12, [t0, t1, .int 0, t3, t4, t5, t6, t7, t8, t9, t10, .int 0, t12, t13, t14, t15, t16, t17, t18, .int 0, t20, t21])), (ou, .inl (dC 101, 1, .inr (.inl f0)))] := hD
  refine W.widen (k := 404) (n := 120035) (Nat.le_of_ble_eq_true rfl) (Nat.le_of_ble_eq_true rfl) ?_
  refine lv_istore (lv' := [(5, .int 1), (0, .ref b), (1, .ref h0), (2, .ref m0), (3, .ref ou), (4, .int 0)]) hx hb dM_L_law_2676 hl (by decide) rfl (fun ls hl => ?_)
  refine lv_aload_n hx hb dM_L_law_2678 rfl (lv_at hl 3 rfl) ?_
  refine lv_aload_n hx hb dM_L_law_2679 rfl (lv_at hl 1 rfl) ?_
  refine lv_iload hx hb dM_L_law_2680 (lv_at hl 5 rfl) ?_
  refine lv_iconst (v := 1) hx hb dM_L_law_2682 (by decide) ?_
  refine lv_iadd hx hb dM_L_law_2683 ?_
  refine lv_topi (fun y_14 ey_14 => ?_)
  obtain rfl : y_14 = 1 := ey_14.trans (by decide)
  refine va_sld hx hb hX hbl hbA hS (by unfold vp_in; decide) dM_L_law_2684 ?_
  refine lv_topi (fun y_15 ey_15 => ?_)
  obtain rfl : y_2 = y_15 := ey_2.trans ey_15.symm
  refine lv_aload_n hx hb dM_L_law_2685 rfl (lv_at hl 1 rfl) ?_
  refine lv_iload hx hb dM_L_law_2686 (lv_at hl 5 rfl) ?_
  refine lv_iconst (v := 2) hx hb dM_L_law_2688 (by decide) ?_
  refine lv_iadd hx hb dM_L_law_2689 ?_
  refine lv_topi (fun y_16 ey_16 => ?_)
  obtain rfl : y_16 = 2 := ey_16.trans (by decide)
  refine va_sld hx hb hX hbl hbA hS (by unfold vp_in; decide) dM_L_law_2690 ?_
  refine lv_topi (fun y_17 ey_17 => ?_)
  obtain rfl : y_4 = y_17 := ey_4.trans ey_17.symm
  refine lv_aload_n hx hb dM_L_law_2691 rfl (lv_at hl 1 rfl) ?_
  refine lv_iload hx hb dM_L_law_2692 (lv_at hl 5 rfl) ?_
  refine lv_iconst (v := 3) hx hb dM_L_law_2694 (by decide) ?_
  refine lv_iadd hx hb dM_L_law_2695 ?_
  refine lv_topi (fun y_18 ey_18 => ?_)
  obtain rfl : y_18 = 3 := ey_18.trans (by decide)
  refine va_sld hx hb hX hbl hbA hS (by unfold vp_in; decide) dM_L_law_2696 ?_
  refine lv_topi (fun y_19 ey_19 => ?_)
  obtain rfl : y_6 = y_19 := ey_6.trans ey_19.symm
  refine lv_aload_n hx hb dM_L_law_2697 rfl (lv_at hl 1 rfl) ?_
  refine lv_iload hx hb dM_L_law_2698 (lv_at hl 5 rfl) ?_
  refine lv_iconst (v := 4) hx hb dM_L_law_2700 (by decide) ?_
  refine lv_iadd hx hb dM_L_law_2701 ?_
  refine lv_topi (fun y_20 ey_20 => ?_)
  obtain rfl : y_20 = 4 := ey_20.trans (by decide)
  refine va_sld hx hb hX hbl hbA hS (by unfold vp_in; decide) dM_L_law_2702 ?_
  refine lv_topi (fun y_21 ey_21 => ?_)
  obtain rfl : y_8 = y_21 := ey_8.trans ey_21.symm
  refine lv_aload_n hx hb dM_L_law_2703 rfl (lv_at hl 1 rfl) ?_
  refine lv_iload hx hb dM_L_law_2704 (lv_at hl 5 rfl) ?_
  refine lv_iconst (v := 5) hx hb dM_L_law_2706 (by decide) ?_
  refine lv_iadd hx hb dM_L_law_2707 ?_
  refine lv_topi (fun y_22 ey_22 => ?_)
  obtain rfl : y_22 = 5 := ey_22.trans (by decide)
  refine va_sld hx hb hX hbl hbA hS (by unfold vp_in; decide) dM_L_law_2708 ?_
  refine lv_topi (fun y_23 ey_23 => ?_)
  obtain rfl : y_10 = y_23 := ey_10.trans ey_23.symm
  have hFc := va_free (wc := [(m0, .inr (10, [.ref nw, z1, z2, z3, z4, z5, z6, z7, z8, z9, z10, z11, z12, z13, z14, z15, z16])), (nw, .inr (12, [t0, t1, .int 0, t3, t4, t5, t6, t7, t8, t9, t10, .int 0, t12, t13, t14, t15, t16, t17, t18, .int 0, t20, t21]))]) hD hS hA [0, 1] rfl
  refine va_calli (va_runV (As := [.int y_2, .int y_4, .int y_6, .int y_8, .int y_10]) (rest := []) ⟨hx, hb, hml, hown, hbg⟩ (c_M_move l dC dI m0 y_2 y_4 y_6 y_8 y_10 nw z1 z2 z3 z4 z5 z6 z7 z8 z9 z10 z11 z12 z13 z14 z15 z16 t0 t1 t3 t4 t5 t6 t7 t8 t9 t10 t12 t13 t14 t15 t16 t17 t18 t20 t21 _ ) (cwV 5 hbg (gd_V (fun _ h => h) wd_2799 wd_2800 wd_2801 wd_12 (gd_wm (fun _ h => h) wd_2802)) rfl rfl rfl (by decide +kernel) ⟨Nat.le_of_ble_eq_true rfl, Nat.le_of_ble_eq_true rfl⟩) (nPreV [0, 1] hP hD hK hN hS hA (by decide) rfl 0 rfl rfl) rfl rfl hl.1 rfl (lv_room (Nat.le_of_ble_eq_true rfl)) dM_L_law_2709 ⟨Nat.le_of_ble_eq_true rfl, Nat.le_of_ble_eq_true rfl⟩) hS (fun q _ h => hFc q h) hFc (fun r_24 u t H1 locs ht hvm hw hB hz1 hk1 hS => ?_)
  obtain ⟨rfl, rfl⟩ := hw
  obtain ⟨r0_26, r1_27, r2_28, r3_29, r4_30, r5_31, r6_32, r7_33, r8_34, r9_35, r10_36, r11_37, r12_38, r13_39, r14_40, r15_41, hP1, hD1⟩ := hB
  rw [ht] at hP1
  obtain ⟨hP, hD⟩ := va_join (wr := [(ou, .inl (dC 101, 1, .inr (.inl f0)))]) (w1 := [(m0, .inr (10, [r0_26, r1_27, r2_28, r3_29, r4_30, r5_31, r6_32, r7_33, r8_34, r9_35, r10_36, r11_37, r12_38, r13_39, r14_40, r15_41, .int 1]))]) hP hD [0, 1] [2] rfl rfl (by decide) (by decide) hk1 hFc hP1 hD1
  generalize H1 = H at hP hS ⊢
  have hP : va_P (dC, dI) classes [(ou, .inl (dC 101, 1, .inr (.inl f0))), (m0, .inr (10, [r0_26, r1_27, r2_28, r3_29, r4_30, r5_31, r6_32, r7_33, r8_34, r9_35, r10_36, r11_37, r12_38, r13_39, r14_40, r15_41, .int 1]))] H := hP
  have hD : va_D A [(ou, .inl (dC 101, 1, .inr (.inl f0))), (m0, .inr (10, [r0_26, r1_27, r2_28, r3_29, r4_30, r5_31, r6_32, r7_33, r8_34, r9_35, r10_36, r11_37, r12_38, r13_39, r14_40, r15_41, .int 1]))] := hD
  refine W.widen (k := 404) (n := 120035) (Nat.le_of_ble_eq_true rfl) (Nat.le_of_ble_eq_true rfl) ?_
  refine lv_istore (lv' := [(6, .int 0), (5, .int 1), (0, .ref b), (1, .ref h0), (2, .ref m0), (3, .ref ou), (4, .int 0)]) hx hb dM_L_law_2712 hl (by decide) rfl (fun ls hl => ?_)
  refine lv_aload_n hx hb dM_L_law_2714 rfl (lv_at hl 4 rfl) ?_
  have hFc := va_free (wc := [(m0, .inr (10, [r0_26, r1_27, r2_28, r3_29, r4_30, r5_31, r6_32, r7_33, r8_34, r9_35, r10_36, r11_37, r12_38, r13_39, r14_40, r15_41, .int 1]))]) hD hS hA [1] rfl
  refine va_calli (va_runV (As := []) (rest := []) ⟨hx, hb, hml, hown, hbg⟩ (c_M_thrown l dC dI m0 r0_26 r1_27 r2_28 r3_29 r4_30 r5_31 r6_32 r7_33 r8_34 r9_35 r10_36 r11_37 r12_38 r13_39 r14_40 r15_41 1 _ ) (cwV 0 hbg (gd_V (fun _ h => h) wd_2190 wd_2191 wd_2192 wd_12 (gd_wm (fun _ h => h) wd_2193)) rfl rfl rfl (by decide +kernel) ⟨Nat.le_of_ble_eq_true rfl, Nat.le_of_ble_eq_true rfl⟩) (nPreV [1] hP hD hK hN hS hA (by decide) rfl 1 rfl rfl) rfl rfl hl.1 rfl (lv_room (Nat.le_of_ble_eq_true rfl)) dM_L_law_2715 ⟨Nat.le_of_ble_eq_true rfl, Nat.le_of_ble_eq_true rfl⟩) hS (fun q _ h => hFc q h) hFc (fun r_42 u t H1 locs ht hvm hw hB hz1 hk1 hS => ?_)
  obtain ⟨rfl, rfl⟩ := hw
  obtain ⟨r0_44, r1_45, r2_46, r3_47, r4_48, r5_49, r6_50, r7_51, r8_52, r9_53, r10_54, r11_55, r12_56, r13_57, r14_58, r15_59, hP1, hD1⟩ := hB
  rw [ht] at hP1
  obtain ⟨hP, hD⟩ := va_join (wr := [(ou, .inl (dC 101, 1, .inr (.inl f0)))]) (w1 := [(m0, .inr (10, [r0_44, r1_45, r2_46, r3_47, r4_48, r5_49, r6_50, r7_51, r8_52, r9_53, r10_54, r11_55, r12_56, r13_57, r14_58, r15_59, .int 1]))]) hP hD [1] [0] rfl rfl (by decide) (by decide) hk1 hFc hP1 hD1
  generalize H1 = H at hP hS ⊢
  have hP : va_P (dC, dI) classes [(ou, .inl (dC 101, 1, .inr (.inl f0))), (m0, .inr (10, [r0_44, r1_45, r2_46, r3_47, r4_48, r5_49, r6_50, r7_51, r8_52, r9_53, r10_54, r11_55, r12_56, r13_57, r14_58, r15_59, .int 1]))] H := hP
  have hD : va_D A [(ou, .inl (dC 101, 1, .inr (.inl f0))), (m0, .inr (10, [r0_44, r1_45, r2_46, r3_47, r4_48, r5_49, r6_50, r7_51, r8_52, r9_53, r10_54, r11_55, r12_56, r13_57, r14_58, r15_59, .int 1]))] := hD
  refine W.widen (k := 404) (n := 120035) (Nat.le_of_ble_eq_true rfl) (Nat.le_of_ble_eq_true rfl) ?_
  refine lv_iload hx hb dM_L_law_2718 (lv_at hl 1 rfl) ?_
  refine lv_icmp_eq (tgt := 2725) hx hb dM_L_law_2720 (by decide) (fun _ => ?_) (fun q => absurd (by decide) q)
  refine lv_iload hx hb dM_L_law_2725 (lv_at hl 1 rfl) ?_
  refine lv_if_ne (tgt := 2742) hx hb dM_L_law_2727 (by decide) (fun _ => ?_) (fun q => absurd q (by decide))
  refine lv_goto (tgt := 3410) hx hb dM_L_law_2742 (by decide) ?_
  refine W.widen (k := 600002) (n := 7302232) (Nat.le_of_ble_eq_true rfl) (Nat.le_of_ble_eq_true rfl) ?_
  exact hend _ _ _ hS (lv_sub hl [6, 2] rfl)
set_option maxHeartbeats 4000000 in
set_option maxRecDepth 100000 in
theorem lawc_36 {p : Program} {e : Env} {s : State} {m : MethodId} {below : List Frame} {meth : Method} {c : Code} {Z : State → Prop} (l : Launch) (hl9 : l.stackTraces = false) (dC : Nat → ClassId) (dI : Nat → Nat → Nat) {A : Nat → Prop} {b L : Nat} {xs : Nat → Int32} (hL : L = 8) (hx : p.tables.exec = Jvm.exec) (hb : c.code = cM_L_law) (hml : c.maxLocals = 8) (hown : s.vm.findClass "NoteDocumentLaw" = some m.cls) (hbg : ∀ w ∈ BIG, w.before #[Value.ref b] s = true) (hK : nK (dC, dI) s) (hN : nS A s s.heap) (hA : ∀ q : Nat, s.heap.size ≤ q → A q) (hX : va_X b L xs s s.heap) (hbl : b < s.heap.size) (hbA : ¬ A b) {H : Heap} {locs : List Loc} {ls : Array Slot} {h0 : Nat} {m0 : Nat} {ou : Nat} {st : Nat} {v1 : Value} {v2 : Value} {v3 : Value} {v4 : Value} {v5 : Value} {v6 : Value} {v7 : Value} {v8 : Value} {v9 : Value} {v10 : Value} {w3 : Value} {w4 : Value} {w5 : Value} {w6 : Value} {w7 : Value} {w8 : Value} {w9 : Value} {w10 : Value} {w11 : Value} {w12 : Value} {w13 : Value} {w14 : Value} {w15 : Value} {w16 : Value} {w17 : Value} {w18 : Value} {w19 : Value} {f0 : Nat → Int64} {nw : Nat} {z1 : Value} {z2 : Value} {z3 : Value} {z4 : Value} {z5 : Value} {z6 : Value} {z7 : Value} {z8 : Value} {z9 : Value} {z10 : Value} {z11 : Value} {z12 : Value} {z13 : Value} {z14 : Value} {z15 : Value} {z16 : Value} {t0 : Value} {t1 : Value} {t3 : Value} {t4 : Value} {t5 : Value} {t6 : Value} {t7 : Value} {t8 : Value} {t9 : Value} {t10 : Value} {t12 : Value} {t13 : Value} {t14 : Value} {t15 : Value} {t16 : Value} {t17 : Value} {t18 : Value} {t20 : Value} {t21 : Value} (hP : va_P (dC, dI) classes [(h0, .inr (0, [.ref st, v1, v2, v3, v4, v5, v6, v7, v8, v9, v10])), (st, .inr (8, [.int 0, .int 0, .int 0, w3, w4, w5, w6, w7, w8, w9, w10, w11, w12, w13, w14, w15, w16, w17, w18, w19])), (ou, .inl (dC 101, 1, .inr (.inl f0))), (m0, .inr (10, [.ref nw, z1, z2, z3, z4, z5, z6, z7, z8, z9, z10, z11, z12, z13, z14, z15, z16])), (nw, .inr (12, [t0, t1, .int 0, t3, t4, t5, t6, t7, t8, t9, t10, .int 0, t12, t13, t14, t15, t16, t17, t18, .int 0, t20, t21]))] H) (hD : va_D A [(h0, .inr (0, [.ref st, v1, v2, v3, v4, v5, v6, v7, v8, v9, v10])), (st, .inr (8, [.int 0, .int 0, .int 0, w3, w4, w5, w6, w7, w8, w9, w10, w11, w12, w13, w14, w15, w16, w17, w18, w19])), (ou, .inl (dC 101, 1, .inr (.inl f0))), (m0, .inr (10, [.ref nw, z1, z2, z3, z4, z5, z6, z7, z8, z9, z10, z11, z12, z13, z14, z15, z16])), (nw, .inr (12, [t0, t1, .int 0, t3, t4, t5, t6, t7, t8, t9, t10, .int 0, t12, t13, t14, t15, t16, t17, t18, .int 0, t20, t21]))]) (hS : va_S A s.heap H locs) (hl : lv_has ls 8 [(0, .ref b), (1, .ref h0), (2, .ref m0), (3, .ref ou), (4, .int 0)]) (hend : ∀ (H : Heap) (locs : List Loc) (ls : Array Slot), va_S A s.heap H locs → lv_has ls 8 [(4, .int 0), (0, .ref b)] → W p l e room_1 s m #[Value.ref b] below meth c H locs 600002 7302232 Z (F0 m 3410 ls [])) : W p l e room_1 s m #[Value.ref b] below meth c H locs 403 120029 Z (F0 m 2745 ls []) := by
  subst hL
  refine lv_aload_n hx hb dM_L_law_2745 rfl (lv_at hl 1 rfl) ?_
  refine lv_aload_n hx hb dM_L_law_2746 rfl (lv_at hl 0 rfl) ?_
  refine lv_iload hx hb dM_L_law_2747 (lv_at hl 4 rfl) ?_
  refine lv_iconst (v := 1) hx hb dM_L_law_2749 (by decide) ?_
  refine lv_iadd hx hb dM_L_law_2750 ?_
  refine lv_topi (fun y_1 ey_1 => ?_)
  obtain rfl : y_1 = 1 := ey_1.trans (by decide)
  refine va_sld hx hb hX hbl hbA hS (by unfold vp_in; decide) dM_L_law_2751 ?_
  refine lv_topi (fun y_2 ey_2 => ?_)
  refine lv_aload_n hx hb dM_L_law_2752 rfl (lv_at hl 0 rfl) ?_
  refine lv_iload hx hb dM_L_law_2753 (lv_at hl 4 rfl) ?_
  refine lv_iconst (v := 2) hx hb dM_L_law_2755 (by decide) ?_
  refine lv_iadd hx hb dM_L_law_2756 ?_
  refine lv_topi (fun y_3 ey_3 => ?_)
  obtain rfl : y_3 = 2 := ey_3.trans (by decide)
  refine va_sld hx hb hX hbl hbA hS (by unfold vp_in; decide) dM_L_law_2757 ?_
  refine lv_topi (fun y_4 ey_4 => ?_)
  refine lv_aload_n hx hb dM_L_law_2758 rfl (lv_at hl 0 rfl) ?_
  refine lv_iload hx hb dM_L_law_2759 (lv_at hl 4 rfl) ?_
  refine lv_iconst (v := 3) hx hb dM_L_law_2761 (by decide) ?_
  refine lv_iadd hx hb dM_L_law_2762 ?_
  refine lv_topi (fun y_5 ey_5 => ?_)
  obtain rfl : y_5 = 3 := ey_5.trans (by decide)
  refine va_sld hx hb hX hbl hbA hS (by unfold vp_in; decide) dM_L_law_2763 ?_
  refine lv_topi (fun y_6 ey_6 => ?_)
  refine lv_aload_n hx hb dM_L_law_2764 rfl (lv_at hl 0 rfl) ?_
  refine lv_iload hx hb dM_L_law_2765 (lv_at hl 4 rfl) ?_
  refine lv_iconst (v := 4) hx hb dM_L_law_2767 (by decide) ?_
  refine lv_iadd hx hb dM_L_law_2768 ?_
  refine lv_topi (fun y_7 ey_7 => ?_)
  obtain rfl : y_7 = 4 := ey_7.trans (by decide)
  refine va_sld hx hb hX hbl hbA hS (by unfold vp_in; decide) dM_L_law_2769 ?_
  refine lv_topi (fun y_8 ey_8 => ?_)
  refine lv_aload_n hx hb dM_L_law_2770 rfl (lv_at hl 3 rfl) ?_
  have hFc := va_free (wc := [(h0, .inr (0, [.ref st, v1, v2, v3, v4, v5, v6, v7, v8, v9, v10])), (st, .inr (8, [.int 0, .int 0, .int 0, w3, w4, w5, w6, w7, w8, w9, w10, w11, w12, w13, w14, w15, w16, w17, w18, w19])), (ou, .inl (dC 101, 1, .inr (.inl f0)))]) hD hS hA [0, 1, 2] rfl
  refine va_calli (vx_runSW (As := [.ref h0, .int y_2, .int y_4, .int y_6, .int y_8, .ref ou]) (rest := []) ⟨hx, hb, hml, hown, hbg⟩ (c_L_sort l hl9 dC dI h0 y_2 y_4 y_6 y_8 ou st v1 v2 v3 v4 v5 v6 v7 v8 v9 v10 w3 w4 w5 w6 w7 w8 w9 w10 w11 w12 w13 w14 w15 w16 w17 w18 w19 f0 _ ) (vx_cwSW 6 hbg (gd_S (fun _ h => h) wd_1837 wd_1838 wd_0 (gd_wmW (fun _ h => h) wd_1839)) rfl rfl rfl (by decide +kernel) ⟨Nat.le_of_ble_eq_true rfl, Nat.le_of_ble_eq_true rfl⟩) (nPreS [0, 1, 2] hP hD hK hN hS hA (by decide) rfl) rfl rfl hl.1 rfl (lv_room (Nat.le_of_ble_eq_true rfl)) dM_L_law_2771 ⟨Nat.le_of_ble_eq_true rfl, Nat.le_of_ble_eq_true rfl⟩) hS (fun q _ h => hFc q h) hFc (fun r_9 u t H1 locs ht hvm hw hB hz1 hk1 hS => ?_)
  obtain ⟨rfl, hu_11⟩ := hw
  obtain rfl := hu_11.symm
  obtain ⟨hP1, hD1⟩ := hB
  rw [ht] at hP1
  obtain ⟨hP, hD⟩ := va_join (wr := [(m0, .inr (10, [.ref nw, z1, z2, z3, z4, z5, z6, z7, z8, z9, z10, z11, z12, z13, z14, z15, z16])), (nw, .inr (12, [t0, t1, .int 0, t3, t4, t5, t6, t7, t8, t9, t10, .int 0, t12, t13, t14, t15, t16, t17, t18, .int 0, t20, t21]))]) (w1 := [(ou, .inl (dC 101, 1, .inr (.inl f0)))]) hP hD [0, 1, 2] [3, 4] rfl rfl (by decide) (by decide) hk1 hFc hP1 hD1
  generalize H1 = H at hP hS ⊢
  have hP : va_P (dC, dI) classes [(m0, .inr (10, [.ref nw, z1, z2, z3, z4, z5, z6, z7, z8, z9, z10, z11, z12, z13, z14, z15, z16])), (nw, .inr (12, [t0, t1, .int 0, t3, t4, t5, t6, t7, t8, t9, t10, .int 0, t12, t13, t14, t15, t16, t17, t18, .int 0, t20, t21])), (ou, .inl (dC 101, 1, .inr (.inl f0)))] H := hP
  have hD : va_D A [(m0, .inr (10, [.ref nw, z1, z2, z3, z4, z5, z6, z7, z8, z9, z10, z11, z12, z13, z14, z15, z16])), (nw, .inr (12, [t0, t1, .int 0, t3, t4, t5, t6, t7, t8, t9, t10, .int 0, t12, t13, t14, t15, t16, t17, t18, .int 0, t20, t21])), (ou, .inl (dC 101, 1, .inr (.inl f0)))] := hD
  refine W.widen (k := 404) (n := 120035) (Nat.le_of_ble_eq_true rfl) (Nat.le_of_ble_eq_true rfl) ?_
  refine lv_istore (lv' := [(5, .int 1), (0, .ref b), (1, .ref h0), (2, .ref m0), (3, .ref ou), (4, .int 0)]) hx hb dM_L_law_2774 hl (by decide) rfl (fun ls hl => ?_)
  refine lv_aload_n hx hb dM_L_law_2776 rfl (lv_at hl 3 rfl) ?_
  refine lv_aload_n hx hb dM_L_law_2777 rfl (lv_at hl 1 rfl) ?_
  refine lv_iload hx hb dM_L_law_2778 (lv_at hl 5 rfl) ?_
  refine lv_iconst (v := 1) hx hb dM_L_law_2780 (by decide) ?_
  refine lv_iadd hx hb dM_L_law_2781 ?_
  refine lv_topi (fun y_12 ey_12 => ?_)
  obtain rfl : y_12 = 1 := ey_12.trans (by decide)
  refine va_sld hx hb hX hbl hbA hS (by unfold vp_in; decide) dM_L_law_2782 ?_
  refine lv_topi (fun y_13 ey_13 => ?_)
  obtain rfl : y_2 = y_13 := ey_2.trans ey_13.symm
  refine lv_aload_n hx hb dM_L_law_2783 rfl (lv_at hl 1 rfl) ?_
  refine lv_iload hx hb dM_L_law_2784 (lv_at hl 5 rfl) ?_
  refine lv_iconst (v := 2) hx hb dM_L_law_2786 (by decide) ?_
  refine lv_iadd hx hb dM_L_law_2787 ?_
  refine lv_topi (fun y_14 ey_14 => ?_)
  obtain rfl : y_14 = 2 := ey_14.trans (by decide)
  refine va_sld hx hb hX hbl hbA hS (by unfold vp_in; decide) dM_L_law_2788 ?_
  refine lv_topi (fun y_15 ey_15 => ?_)
  obtain rfl : y_4 = y_15 := ey_4.trans ey_15.symm
  refine lv_aload_n hx hb dM_L_law_2789 rfl (lv_at hl 1 rfl) ?_
  refine lv_iload hx hb dM_L_law_2790 (lv_at hl 5 rfl) ?_
  refine lv_iconst (v := 3) hx hb dM_L_law_2792 (by decide) ?_
  refine lv_iadd hx hb dM_L_law_2793 ?_
  refine lv_topi (fun y_16 ey_16 => ?_)
  obtain rfl : y_16 = 3 := ey_16.trans (by decide)
  refine va_sld hx hb hX hbl hbA hS (by unfold vp_in; decide) dM_L_law_2794 ?_
  refine lv_topi (fun y_17 ey_17 => ?_)
  obtain rfl : y_6 = y_17 := ey_6.trans ey_17.symm
  refine lv_aload_n hx hb dM_L_law_2795 rfl (lv_at hl 1 rfl) ?_
  refine lv_iload hx hb dM_L_law_2796 (lv_at hl 5 rfl) ?_
  refine lv_iconst (v := 4) hx hb dM_L_law_2798 (by decide) ?_
  refine lv_iadd hx hb dM_L_law_2799 ?_
  refine lv_topi (fun y_18 ey_18 => ?_)
  obtain rfl : y_18 = 4 := ey_18.trans (by decide)
  refine va_sld hx hb hX hbl hbA hS (by unfold vp_in; decide) dM_L_law_2800 ?_
  refine lv_topi (fun y_19 ey_19 => ?_)
  obtain rfl : y_8 = y_19 := ey_8.trans ey_19.symm
  have hFc := va_free (wc := [(m0, .inr (10, [.ref nw, z1, z2, z3, z4, z5, z6, z7, z8, z9, z10, z11, z12, z13, z14, z15, z16])), (nw, .inr (12, [t0, t1, .int 0, t3, t4, t5, t6, t7, t8, t9, t10, .int 0, t12, t13, t14, t15, t16, t17, t18, .int 0, t20, t21]))]) hD hS hA [0, 1] rfl
  refine va_calli (va_runV (As := [.int y_2, .int y_4, .int y_6, .int y_8]) (rest := []) ⟨hx, hb, hml, hown, hbg⟩ (c_M_sort l dC dI m0 y_2 y_4 y_6 y_8 nw z1 z2 z3 z4 z5 z6 z7 z8 z9 z10 z11 z12 z13 z14 z15 z16 t0 t1 t3 t4 t5 t6 t7 t8 t9 t10 t12 t13 t14 t15 t16 t17 t18 t20 t21 _ ) (cwV 4 hbg (gd_V (fun _ h => h) wd_2807 wd_2808 wd_2809 wd_12 (gd_wm (fun _ h => h) wd_2810)) rfl rfl rfl (by decide +kernel) ⟨Nat.le_of_ble_eq_true rfl, Nat.le_of_ble_eq_true rfl⟩) (nPreV [0, 1] hP hD hK hN hS hA (by decide) rfl 0 rfl rfl) rfl rfl hl.1 rfl (lv_room (Nat.le_of_ble_eq_true rfl)) dM_L_law_2801 ⟨Nat.le_of_ble_eq_true rfl, Nat.le_of_ble_eq_true rfl⟩) hS (fun q _ h => hFc q h) hFc (fun r_20 u t H1 locs ht hvm hw hB hz1 hk1 hS => ?_)
  obtain ⟨rfl, rfl⟩ := hw
  obtain ⟨r0_22, r1_23, r2_24, r3_25, r4_26, r5_27, r6_28, r7_29, r8_30, r9_31, r10_32, r11_33, r12_34, r13_35, r14_36, r15_37, hP1, hD1⟩ := hB
  rw [ht] at hP1
  obtain ⟨hP, hD⟩ := va_join (wr := [(ou, .inl (dC 101, 1, .inr (.inl f0)))]) (w1 := [(m0, .inr (10, [r0_22, r1_23, r2_24, r3_25, r4_26, r5_27, r6_28, r7_29, r8_30, r9_31, r10_32, r11_33, r12_34, r13_35, r14_36, r15_37, .int 1]))]) hP hD [0, 1] [2] rfl rfl (by decide) (by decide) hk1 hFc hP1 hD1
  generalize H1 = H at hP hS ⊢
  have hP : va_P (dC, dI) classes [(ou, .inl (dC 101, 1, .inr (.inl f0))), (m0, .inr (10, [r0_22, r1_23, r2_24, r3_25, r4_26, r5_27, r6_28, r7_29, r8_30, r9_31, r10_32, r11_33, r12_34, r13_35, r14_36, r15_37, .int 1]))] H := hP
  have hD : va_D A [(ou, .inl (dC 101, 1, .inr (.inl f0))), (m0, .inr (10, [r0_22, r1_23, r2_24, r3_25, r4_26, r5_27, r6_28, r7_29, r8_30, r9_31, r10_32, r11_33, r12_34, r13_35, r14_36, r15_37, .int 1]))] := hD
  refine W.widen (k := 404) (n := 120035) (Nat.le_of_ble_eq_true rfl) (Nat.le_of_ble_eq_true rfl) ?_
  refine lv_istore (lv' := [(6, .int 0), (5, .int 1), (0, .ref b), (1, .ref h0), (2, .ref m0), (3, .ref ou), (4, .int 0)]) hx hb dM_L_law_2804 hl (by decide) rfl (fun ls hl => ?_)
  refine lv_aload_n hx hb dM_L_law_2806 rfl (lv_at hl 4 rfl) ?_
  have hFc := va_free (wc := [(m0, .inr (10, [r0_22, r1_23, r2_24, r3_25, r4_26, r5_27, r6_28, r7_29, r8_30, r9_31, r10_32, r11_33, r12_34, r13_35, r14_36, r15_37, .int 1]))]) hD hS hA [1] rfl
  refine va_calli (va_runV (As := []) (rest := []) ⟨hx, hb, hml, hown, hbg⟩ (c_M_thrown l dC dI m0 r0_22 r1_23 r2_24 r3_25 r4_26 r5_27 r6_28 r7_29 r8_30 r9_31 r10_32 r11_33 r12_34 r13_35 r14_36 r15_37 1 _ ) (cwV 0 hbg (gd_V (fun _ h => h) wd_2190 wd_2191 wd_2192 wd_12 (gd_wm (fun _ h => h) wd_2193)) rfl rfl rfl (by decide +kernel) ⟨Nat.le_of_ble_eq_true rfl, Nat.le_of_ble_eq_true rfl⟩) (nPreV [1] hP hD hK hN hS hA (by decide) rfl 1 rfl rfl) rfl rfl hl.1 rfl (lv_room (Nat.le_of_ble_eq_true rfl)) dM_L_law_2807 ⟨Nat.le_of_ble_eq_true rfl, Nat.le_of_ble_eq_true rfl⟩) hS (fun q _ h => hFc q h) hFc (fun r_38 u t H1 locs ht hvm hw hB hz1 hk1 hS => ?_)
  obtain ⟨rfl, rfl⟩ := hw
  obtain ⟨r0_40, r1_41, r2_42, r3_43, r4_44, r5_45, r6_46, r7_47, r8_48, r9_49, r10_50, r11_51, r12_52, r13_53, r14_54, r15_55, hP1, hD1⟩ := hB
  rw [ht] at hP1
  obtain ⟨hP, hD⟩ := va_join (wr := [(ou, .inl (dC 101, 1, .inr (.inl f0)))]) (w1 := [(m0, .inr (10, [r0_40, r1_41, r2_42, r3_43, r4_44, r5_45, r6_46, r7_47, r8_48, r9_49, r10_50, r11_51, r12_52, r13_53, r14_54, r15_55, .int 1]))]) hP hD [1] [0] rfl rfl (by decide) (by decide) hk1 hFc hP1 hD1
  generalize H1 = H at hP hS ⊢
  have hP : va_P (dC, dI) classes [(ou, .inl (dC 101, 1, .inr (.inl f0))), (m0, .inr (10, [r0_40, r1_41, r2_42, r3_43, r4_44, r5_45, r6_46, r7_47, r8_48, r9_49, r10_50, r11_51, r12_52, r13_53, r14_54, r15_55, .int 1]))] H := hP
  have hD : va_D A [(ou, .inl (dC 101, 1, .inr (.inl f0))), (m0, .inr (10, [r0_40, r1_41, r2_42, r3_43, r4_44, r5_45, r6_46, r7_47, r8_48, r9_49, r10_50, r11_51, r12_52, r13_53, r14_54, r15_55, .int 1]))] := hD
  refine W.widen (k := 404) (n := 120035) (Nat.le_of_ble_eq_true rfl) (Nat.le_of_ble_eq_true rfl) ?_
  refine lv_iload hx hb dM_L_law_2810 (lv_at hl 1 rfl) ?_
  refine lv_icmp_eq (tgt := 2817) hx hb dM_L_law_2812 (by decide) (fun _ => ?_) (fun q => absurd (by decide) q)
  refine lv_iload hx hb dM_L_law_2817 (lv_at hl 1 rfl) ?_
  refine lv_if_ne (tgt := 2834) hx hb dM_L_law_2819 (by decide) (fun _ => ?_) (fun q => absurd q (by decide))
  refine lv_goto (tgt := 3410) hx hb dM_L_law_2834 (by decide) ?_
  refine W.widen (k := 600002) (n := 7302232) (Nat.le_of_ble_eq_true rfl) (Nat.le_of_ble_eq_true rfl) ?_
  exact hend _ _ _ hS (lv_sub hl [6, 2] rfl)
set_option maxHeartbeats 4000000 in
set_option maxRecDepth 100000 in
theorem lawc_37 {p : Program} {e : Env} {s : State} {m : MethodId} {below : List Frame} {meth : Method} {c : Code} {Z : State → Prop} (l : Launch) (hl9 : l.stackTraces = false) (dC : Nat → ClassId) (dI : Nat → Nat → Nat) {A : Nat → Prop} {b L : Nat} {xs : Nat → Int32} (hL : L = 8) (hx : p.tables.exec = Jvm.exec) (hb : c.code = cM_L_law) (hml : c.maxLocals = 8) (hown : s.vm.findClass "NoteDocumentLaw" = some m.cls) (hbg : ∀ w ∈ BIG, w.before #[Value.ref b] s = true) (hK : nK (dC, dI) s) (hN : nS A s s.heap) (hA : ∀ q : Nat, s.heap.size ≤ q → A q) (hX : va_X b L xs s s.heap) (hbl : b < s.heap.size) (hbA : ¬ A b) {H : Heap} {locs : List Loc} {ls : Array Slot} {h0 : Nat} {m0 : Nat} {ou : Nat} {st : Nat} {v1 : Value} {v2 : Value} {v3 : Value} {v4 : Value} {v5 : Value} {v6 : Value} {v7 : Value} {v8 : Value} {v9 : Value} {v10 : Value} {w3 : Value} {w4 : Value} {w5 : Value} {w6 : Value} {w7 : Value} {w8 : Value} {w9 : Value} {w10 : Value} {w11 : Value} {w12 : Value} {w13 : Value} {w14 : Value} {w15 : Value} {w16 : Value} {w17 : Value} {w18 : Value} {w19 : Value} {f0 : Nat → Int64} {nw : Nat} {z1 : Value} {z2 : Value} {z3 : Value} {z4 : Value} {z5 : Value} {z6 : Value} {z7 : Value} {z8 : Value} {z9 : Value} {z10 : Value} {z11 : Value} {z12 : Value} {z13 : Value} {z14 : Value} {z15 : Value} {z16 : Value} {t0 : Value} {t1 : Value} {t3 : Value} {t4 : Value} {t5 : Value} {t6 : Value} {t7 : Value} {t8 : Value} {t9 : Value} {t10 : Value} {t12 : Value} {t13 : Value} {t14 : Value} {t15 : Value} {t16 : Value} {t17 : Value} {t18 : Value} {t20 : Value} {t21 : Value} (hP : va_P (dC, dI) classes [(h0, .inr (0, [.ref st, v1, v2, v3, v4, v5, v6, v7, v8, v9, v10])), (st, .inr (8, [.int 0, .int 0, .int 0, w3, w4, w5, w6, w7, w8, w9, w10, w11, w12, w13, w14, w15, w16, w17, w18, w19])), (ou, .inl (dC 101, 1, .inr (.inl f0))), (m0, .inr (10, [.ref nw, z1, z2, z3, z4, z5, z6, z7, z8, z9, z10, z11, z12, z13, z14, z15, z16])), (nw, .inr (12, [t0, t1, .int 0, t3, t4, t5, t6, t7, t8, t9, t10, .int 0, t12, t13, t14, t15, t16, t17, t18, .int 0, t20, t21]))] H) (hD : va_D A [(h0, .inr (0, [.ref st, v1, v2, v3, v4, v5, v6, v7, v8, v9, v10])), (st, .inr (8, [.int 0, .int 0, .int 0, w3, w4, w5, w6, w7, w8, w9, w10, w11, w12, w13, w14, w15, w16, w17, w18, w19])), (ou, .inl (dC 101, 1, .inr (.inl f0))), (m0, .inr (10, [.ref nw, z1, z2, z3, z4, z5, z6, z7, z8, z9, z10, z11, z12, z13, z14, z15, z16])), (nw, .inr (12, [t0, t1, .int 0, t3, t4, t5, t6, t7, t8, t9, t10, .int 0, t12, t13, t14, t15, t16, t17, t18, .int 0, t20, t21]))]) (hS : va_S A s.heap H locs) (hl : lv_has ls 8 [(0, .ref b), (1, .ref h0), (2, .ref m0), (3, .ref ou), (4, .int 0)]) (hend : ∀ (H : Heap) (locs : List Loc) (ls : Array Slot), va_S A s.heap H locs → lv_has ls 8 [(4, .int 0), (0, .ref b)] → W p l e room_1 s m #[Value.ref b] below meth c H locs 600002 7302232 Z (F0 m 3410 ls [])) : W p l e room_1 s m #[Value.ref b] below meth c H locs 403 120029 Z (F0 m 2837 ls []) := by
  subst hL
  refine lv_aload_n hx hb dM_L_law_2837 rfl (lv_at hl 1 rfl) ?_
  refine lv_aload_n hx hb dM_L_law_2838 rfl (lv_at hl 0 rfl) ?_
  refine lv_iload hx hb dM_L_law_2839 (lv_at hl 4 rfl) ?_
  refine lv_iconst (v := 1) hx hb dM_L_law_2841 (by decide) ?_
  refine lv_iadd hx hb dM_L_law_2842 ?_
  refine lv_topi (fun y_1 ey_1 => ?_)
  obtain rfl : y_1 = 1 := ey_1.trans (by decide)
  refine va_sld hx hb hX hbl hbA hS (by unfold vp_in; decide) dM_L_law_2843 ?_
  refine lv_topi (fun y_2 ey_2 => ?_)
  refine lv_aload_n hx hb dM_L_law_2844 rfl (lv_at hl 0 rfl) ?_
  refine lv_iload hx hb dM_L_law_2845 (lv_at hl 4 rfl) ?_
  refine lv_iconst (v := 2) hx hb dM_L_law_2847 (by decide) ?_
  refine lv_iadd hx hb dM_L_law_2848 ?_
  refine lv_topi (fun y_3 ey_3 => ?_)
  obtain rfl : y_3 = 2 := ey_3.trans (by decide)
  refine va_sld hx hb hX hbl hbA hS (by unfold vp_in; decide) dM_L_law_2849 ?_
  refine lv_topi (fun y_4 ey_4 => ?_)
  refine lv_aload_n hx hb dM_L_law_2850 rfl (lv_at hl 0 rfl) ?_
  refine lv_iload hx hb dM_L_law_2851 (lv_at hl 4 rfl) ?_
  refine lv_iconst (v := 3) hx hb dM_L_law_2853 (by decide) ?_
  refine lv_iadd hx hb dM_L_law_2854 ?_
  refine lv_topi (fun y_5 ey_5 => ?_)
  obtain rfl : y_5 = 3 := ey_5.trans (by decide)
  refine va_sld hx hb hX hbl hbA hS (by unfold vp_in; decide) dM_L_law_2855 ?_
  refine lv_topi (fun y_6 ey_6 => ?_)
  refine lv_aload_n hx hb dM_L_law_2856 rfl (lv_at hl 0 rfl) ?_
  refine lv_iload hx hb dM_L_law_2857 (lv_at hl 4 rfl) ?_
  refine lv_iconst (v := 4) hx hb dM_L_law_2859 (by decide) ?_
  refine lv_iadd hx hb dM_L_law_2860 ?_
  refine lv_topi (fun y_7 ey_7 => ?_)
  obtain rfl : y_7 = 4 := ey_7.trans (by decide)
  refine va_sld hx hb hX hbl hbA hS (by unfold vp_in; decide) dM_L_law_2861 ?_
  refine lv_topi (fun y_8 ey_8 => ?_)
  refine lv_aload_n hx hb dM_L_law_2862 rfl (lv_at hl 0 rfl) ?_
  refine lv_iload hx hb dM_L_law_2863 (lv_at hl 4 rfl) ?_
  refine lv_iconst (v := 5) hx hb dM_L_law_2865 (by decide) ?_
  refine lv_iadd hx hb dM_L_law_2866 ?_
  refine lv_topi (fun y_9 ey_9 => ?_)
  obtain rfl : y_9 = 5 := ey_9.trans (by decide)
  refine va_sld hx hb hX hbl hbA hS (by unfold vp_in; decide) dM_L_law_2867 ?_
  refine lv_topi (fun y_10 ey_10 => ?_)
  refine lv_i2l (v := y_10.toInt64) hx hb dM_L_law_2868 rfl ?_
  refine lv_bipush (v := 32) hx hb dM_L_law_2869 (by decide) ?_
  refine lv_lshl (v := y_10.toInt64 <<< ((32 : Int32).toInt64 &&& 63)) hx hb dM_L_law_2871 rfl ?_
  refine lv_aload_n hx hb dM_L_law_2872 rfl (lv_at hl 0 rfl) ?_
  refine lv_iload hx hb dM_L_law_2873 (lv_at hl 4 rfl) ?_
  refine lv_bipush (v := 6) hx hb dM_L_law_2875 (by decide) ?_
  refine lv_iadd hx hb dM_L_law_2877 ?_
  refine lv_topi (fun y_11 ey_11 => ?_)
  obtain rfl : y_11 = 6 := ey_11.trans (by decide)
  refine va_sld hx hb hX hbl hbA hS (by unfold vp_in; decide) dM_L_law_2878 ?_
  refine lv_topi (fun y_12 ey_12 => ?_)
  refine lv_i2l (v := y_12.toInt64) hx hb dM_L_law_2879 rfl ?_
  refine lv_ldc2 (v := 4294967295) hx hb hown (hbg _ wd_2851) dM_L_law_2880 ?_
  refine lv_land hx hb dM_L_law_2883 ?_
  refine lv_topl (fun y_13 ey_13 => ?_)
  refine lv_lor hx hb dM_L_law_2884 ?_
  refine lv_topl (fun y_14 ey_14 => ?_)
  refine lv_aload_n hx hb dM_L_law_2885 rfl (lv_at hl 3 rfl) ?_
  have hFc := va_free (wc := [(h0, .inr (0, [.ref st, v1, v2, v3, v4, v5, v6, v7, v8, v9, v10])), (st, .inr (8, [.int 0, .int 0, .int 0, w3, w4, w5, w6, w7, w8, w9, w10, w11, w12, w13, w14, w15, w16, w17, w18, w19])), (ou, .inl (dC 101, 1, .inr (.inl f0)))]) hD hS hA [0, 1, 2] rfl
  refine va_calli (vx_runSW (As := [.ref h0, .int y_2, .int y_4, .int y_6, .int y_8, .long y_14, .ref ou]) (rest := []) ⟨hx, hb, hml, hown, hbg⟩ (c_L_overlay l hl9 dC dI h0 y_2 y_4 y_6 y_8 y_14 ou st v1 v2 v3 v4 v5 v6 v7 v8 v9 v10 w3 w4 w5 w6 w7 w8 w9 w10 w11 w12 w13 w14 w15 w16 w17 w18 w19 f0 _ ) (vx_cwSW 7 hbg (gd_S (fun _ h => h) wd_1854 wd_1855 wd_0 (gd_wmW (fun _ h => h) wd_1856)) rfl rfl rfl (by decide +kernel) ⟨Nat.le_of_ble_eq_true rfl, Nat.le_of_ble_eq_true rfl⟩) (nPreS [0, 1, 2] hP hD hK hN hS hA (by decide) rfl) rfl rfl hl.1 rfl (lv_room (Nat.le_of_ble_eq_true rfl)) dM_L_law_2886 ⟨Nat.le_of_ble_eq_true rfl, Nat.le_of_ble_eq_true rfl⟩) hS (fun q _ h => hFc q h) hFc (fun r_15 u t H1 locs ht hvm hw hB hz1 hk1 hS => ?_)
  rcases hw with ⟨c_16, rfl, hu_17⟩ | ⟨c_18, rfl, hu_19⟩
  · --
    obtain rfl := hu_17.symm
    obtain ⟨hP1, hD1⟩ := hB
    rw [ht] at hP1
    obtain ⟨hP, hD⟩ := va_join (wr := [(m0, .inr (10, [.ref nw, z1, z2, z3, z4, z5, z6, z7, z8, z9, z10, z11, z12, z13, z14, z15, z16])), (nw, .inr (12, [t0, t1, .int 0, t3, t4, t5, t6, t7, t8, t9, t10, .int 0, t12, t13, t14, t15, t16, t17, t18, .int 0, t20, t21]))]) (w1 := [(ou, .inl (dC 101, 1, .inr (.inl f0)))]) hP hD [0, 1, 2] [3, 4] rfl rfl (by decide) (by decide) hk1 hFc hP1 hD1
    generalize H1 = H at hP hS ⊢
    have hP : va_P (dC, dI) classes [(m0, .inr (10, [.ref nw, z1, z2, z3, z4, z5, z6, z7, z8, z9, z10, z11, z12, z13, z14, z15, z16])), (nw, .inr (12, [t0, t1, .int 0, t3, t4, t5, t6, t7, t8, t9, t10, .int 0, t12, t13, t14, t15, t16, t17, t18, .int 0, t20, t21])), (ou, .inl (dC 101, 1, .inr (.inl f0)))] H := hP
    have hD : va_D A [(m0, .inr (10, [.ref nw, z1, z2, z3, z4, z5, z6, z7, z8, z9, z10, z11, z12, z13, z14, z15, z16])), (nw, .inr (12, [t0, t1, .int 0, t3, t4, t5, t6, t7, t8, t9, t10, .int 0, t12, t13, t14, t15, t16, t17, t18, .int 0, t20, t21])), (ou, .inl (dC 101, 1, .inr (.inl f0)))] := hD
    refine W.widen (k := 405) (n := 120041) (Nat.le_of_ble_eq_true rfl) (Nat.le_of_ble_eq_true rfl) ?_
    refine lv_istore (lv' := [(5, .int 1), (0, .ref b), (1, .ref h0), (2, .ref m0), (3, .ref ou), (4, .int 0)]) hx hb dM_L_law_2889 hl (by decide) rfl (fun ls hl => ?_)
    refine lv_aload_n hx hb dM_L_law_2891 rfl (lv_at hl 3 rfl) ?_
    refine lv_aload_n hx hb dM_L_law_2892 rfl (lv_at hl 1 rfl) ?_
    refine lv_iload hx hb dM_L_law_2893 (lv_at hl 5 rfl) ?_
    refine lv_iconst (v := 1) hx hb dM_L_law_2895 (by decide) ?_
    refine lv_iadd hx hb dM_L_law_2896 ?_
    refine lv_topi (fun y_20 ey_20 => ?_)
    obtain rfl : y_20 = 1 := ey_20.trans (by decide)
    refine va_sld hx hb hX hbl hbA hS (by unfold vp_in; decide) dM_L_law_2897 ?_
    refine lv_topi (fun y_21 ey_21 => ?_)
    obtain rfl : y_2 = y_21 := ey_2.trans ey_21.symm
    refine lv_aload_n hx hb dM_L_law_2898 rfl (lv_at hl 1 rfl) ?_
    refine lv_iload hx hb dM_L_law_2899 (lv_at hl 5 rfl) ?_
    refine lv_iconst (v := 2) hx hb dM_L_law_2901 (by decide) ?_
    refine lv_iadd hx hb dM_L_law_2902 ?_
    refine lv_topi (fun y_22 ey_22 => ?_)
    obtain rfl : y_22 = 2 := ey_22.trans (by decide)
    refine va_sld hx hb hX hbl hbA hS (by unfold vp_in; decide) dM_L_law_2903 ?_
    refine lv_topi (fun y_23 ey_23 => ?_)
    obtain rfl : y_4 = y_23 := ey_4.trans ey_23.symm
    refine lv_aload_n hx hb dM_L_law_2904 rfl (lv_at hl 1 rfl) ?_
    refine lv_iload hx hb dM_L_law_2905 (lv_at hl 5 rfl) ?_
    refine lv_iconst (v := 3) hx hb dM_L_law_2907 (by decide) ?_
    refine lv_iadd hx hb dM_L_law_2908 ?_
    refine lv_topi (fun y_24 ey_24 => ?_)
    obtain rfl : y_24 = 3 := ey_24.trans (by decide)
    refine va_sld hx hb hX hbl hbA hS (by unfold vp_in; decide) dM_L_law_2909 ?_
    refine lv_topi (fun y_25 ey_25 => ?_)
    obtain rfl : y_6 = y_25 := ey_6.trans ey_25.symm
    refine lv_aload_n hx hb dM_L_law_2910 rfl (lv_at hl 1 rfl) ?_
    refine lv_iload hx hb dM_L_law_2911 (lv_at hl 5 rfl) ?_
    refine lv_iconst (v := 4) hx hb dM_L_law_2913 (by decide) ?_
    refine lv_iadd hx hb dM_L_law_2914 ?_
    refine lv_topi (fun y_26 ey_26 => ?_)
    obtain rfl : y_26 = 4 := ey_26.trans (by decide)
    refine va_sld hx hb hX hbl hbA hS (by unfold vp_in; decide) dM_L_law_2915 ?_
    refine lv_topi (fun y_27 ey_27 => ?_)
    obtain rfl : y_8 = y_27 := ey_8.trans ey_27.symm
    refine lv_aload_n hx hb dM_L_law_2916 rfl (lv_at hl 1 rfl) ?_
    refine lv_iload hx hb dM_L_law_2917 (lv_at hl 5 rfl) ?_
    refine lv_iconst (v := 5) hx hb dM_L_law_2919 (by decide) ?_
    refine lv_iadd hx hb dM_L_law_2920 ?_
    refine lv_topi (fun y_28 ey_28 => ?_)
    obtain rfl : y_28 = 5 := ey_28.trans (by decide)
    refine va_sld hx hb hX hbl hbA hS (by unfold vp_in; decide) dM_L_law_2921 ?_
    refine lv_topi (fun y_29 ey_29 => ?_)
    obtain rfl : y_10 = y_29 := ey_10.trans ey_29.symm
    refine lv_i2l (v := y_10.toInt64) hx hb dM_L_law_2922 rfl ?_
    refine lv_bipush (v := 32) hx hb dM_L_law_2923 (by decide) ?_
    refine lv_lshl (v := y_10.toInt64 <<< ((32 : Int32).toInt64 &&& 63)) hx hb dM_L_law_2925 rfl ?_
    refine lv_aload_n hx hb dM_L_law_2926 rfl (lv_at hl 1 rfl) ?_
    refine lv_iload hx hb dM_L_law_2927 (lv_at hl 5 rfl) ?_
    refine lv_bipush (v := 6) hx hb dM_L_law_2929 (by decide) ?_
    refine lv_iadd hx hb dM_L_law_2931 ?_
    refine lv_topi (fun y_30 ey_30 => ?_)
    obtain rfl : y_30 = 6 := ey_30.trans (by decide)
    refine va_sld hx hb hX hbl hbA hS (by unfold vp_in; decide) dM_L_law_2932 ?_
    refine lv_topi (fun y_31 ey_31 => ?_)
    obtain rfl : y_12 = y_31 := ey_12.trans ey_31.symm
    refine lv_i2l (v := y_12.toInt64) hx hb dM_L_law_2933 rfl ?_
    refine lv_ldc2 (v := 4294967295) hx hb hown (hbg _ wd_2851) dM_L_law_2934 ?_
    refine lv_land hx hb dM_L_law_2937 ?_
    refine lv_topl (fun y_32 ey_32 => ?_)
    obtain rfl : y_13 = y_32 := ey_13.trans ey_32.symm
    refine lv_lor hx hb dM_L_law_2938 ?_
    refine lv_topl (fun y_33 ey_33 => ?_)
    obtain rfl : y_14 = y_33 := ey_14.trans ey_33.symm
    have hFc := va_free (wc := [(m0, .inr (10, [.ref nw, z1, z2, z3, z4, z5, z6, z7, z8, z9, z10, z11, z12, z13, z14, z15, z16])), (nw, .inr (12, [t0, t1, .int 0, t3, t4, t5, t6, t7, t8, t9, t10, .int 0, t12, t13, t14, t15, t16, t17, t18, .int 0, t20, t21]))]) hD hS hA [0, 1] rfl
    refine va_calli (va_runV (As := [.int y_2, .int y_4, .int y_6, .int y_8, .long y_14]) (rest := []) ⟨hx, hb, hml, hown, hbg⟩ (c_M_overlay l dC dI m0 y_2 y_4 y_6 y_8 y_14 nw z1 z2 z3 z4 z5 z6 z7 z8 z9 z10 z11 z12 z13 z14 z15 z16 t0 t1 t3 t4 t5 t6 t7 t8 t9 t10 t12 t13 t14 t15 t16 t17 t18 t20 t21 _ ) (cwV 5 hbg (gd_V (fun _ h => h) wd_2819 wd_2820 wd_2821 wd_12 (gd_wm (fun _ h => h) wd_2822)) rfl rfl rfl (by decide +kernel) ⟨Nat.le_of_ble_eq_true rfl, Nat.le_of_ble_eq_true rfl⟩) (nPreV [0, 1] hP hD hK hN hS hA (by decide) rfl 0 rfl rfl) rfl rfl hl.1 rfl (lv_room (Nat.le_of_ble_eq_true rfl)) dM_L_law_2939 ⟨Nat.le_of_ble_eq_true rfl, Nat.le_of_ble_eq_true rfl⟩) hS (fun q _ h => hFc q h) hFc (fun r_34 u t H1 locs ht hvm hw hB hz1 hk1 hS => ?_)
    rcases hw with ⟨c_35, rfl, rfl⟩ | ⟨c_36, rfl, rfl⟩
    · --
      exact absurd c_35 c_16
    · --
      obtain ⟨r0_37, r1_38, r2_39, r3_40, r4_41, r5_42, r6_43, r7_44, r8_45, r9_46, r10_47, r11_48, r12_49, r13_50, r14_51, r15_52, hP1, hD1⟩ := hB
      rw [ht] at hP1
      obtain ⟨hP, hD⟩ := va_join (wr := [(ou, .inl (dC 101, 1, .inr (.inl f0)))]) (w1 := [(m0, .inr (10, [r0_37, r1_38, r2_39, r3_40, r4_41, r5_42, r6_43, r7_44, r8_45, r9_46, r10_47, r11_48, r12_49, r13_50, r14_51, r15_52, .int 1]))]) hP hD [0, 1] [2] rfl rfl (by decide) (by decide) hk1 hFc hP1 hD1
      generalize H1 = H at hP hS ⊢
      have hP : va_P (dC, dI) classes [(ou, .inl (dC 101, 1, .inr (.inl f0))), (m0, .inr (10, [r0_37, r1_38, r2_39, r3_40, r4_41, r5_42, r6_43, r7_44, r8_45, r9_46, r10_47, r11_48, r12_49, r13_50, r14_51, r15_52, .int 1]))] H := hP
      have hD : va_D A [(ou, .inl (dC 101, 1, .inr (.inl f0))), (m0, .inr (10, [r0_37, r1_38, r2_39, r3_40, r4_41, r5_42, r6_43, r7_44, r8_45, r9_46, r10_47, r11_48, r12_49, r13_50, r14_51, r15_52, .int 1]))] := hD
      refine W.widen (k := 405) (n := 120041) (Nat.le_of_ble_eq_true rfl) (Nat.le_of_ble_eq_true rfl) ?_
      refine lv_istore (lv' := [(6, .int 0), (5, .int 1), (0, .ref b), (1, .ref h0), (2, .ref m0), (3, .ref ou), (4, .int 0)]) hx hb dM_L_law_2942 hl (by decide) rfl (fun ls hl => ?_)
      refine lv_aload_n hx hb dM_L_law_2944 rfl (lv_at hl 4 rfl) ?_
      have hFc := va_free (wc := [(m0, .inr (10, [r0_37, r1_38, r2_39, r3_40, r4_41, r5_42, r6_43, r7_44, r8_45, r9_46, r10_47, r11_48, r12_49, r13_50, r14_51, r15_52, .int 1]))]) hD hS hA [1] rfl
      refine va_calli (va_runV (As := []) (rest := []) ⟨hx, hb, hml, hown, hbg⟩ (c_M_thrown l dC dI m0 r0_37 r1_38 r2_39 r3_40 r4_41 r5_42 r6_43 r7_44 r8_45 r9_46 r10_47 r11_48 r12_49 r13_50 r14_51 r15_52 1 _ ) (cwV 0 hbg (gd_V (fun _ h => h) wd_2190 wd_2191 wd_2192 wd_12 (gd_wm (fun _ h => h) wd_2193)) rfl rfl rfl (by decide +kernel) ⟨Nat.le_of_ble_eq_true rfl, Nat.le_of_ble_eq_true rfl⟩) (nPreV [1] hP hD hK hN hS hA (by decide) rfl 1 rfl rfl) rfl rfl hl.1 rfl (lv_room (Nat.le_of_ble_eq_true rfl)) dM_L_law_2945 ⟨Nat.le_of_ble_eq_true rfl, Nat.le_of_ble_eq_true rfl⟩) hS (fun q _ h => hFc q h) hFc (fun r_53 u t H1 locs ht hvm hw hB hz1 hk1 hS => ?_)
      obtain ⟨rfl, rfl⟩ := hw
      obtain ⟨r0_55, r1_56, r2_57, r3_58, r4_59, r5_60, r6_61, r7_62, r8_63, r9_64, r10_65, r11_66, r12_67, r13_68, r14_69, r15_70, hP1, hD1⟩ := hB
      rw [ht] at hP1
      obtain ⟨hP, hD⟩ := va_join (wr := [(ou, .inl (dC 101, 1, .inr (.inl f0)))]) (w1 := [(m0, .inr (10, [r0_55, r1_56, r2_57, r3_58, r4_59, r5_60, r6_61, r7_62, r8_63, r9_64, r10_65, r11_66, r12_67, r13_68, r14_69, r15_70, .int 1]))]) hP hD [1] [0] rfl rfl (by decide) (by decide) hk1 hFc hP1 hD1
      generalize H1 = H at hP hS ⊢
      have hP : va_P (dC, dI) classes [(ou, .inl (dC 101, 1, .inr (.inl f0))), (m0, .inr (10, [r0_55, r1_56, r2_57, r3_58, r4_59, r5_60, r6_61, r7_62, r8_63, r9_64, r10_65, r11_66, r12_67, r13_68, r14_69, r15_70, .int 1]))] H := hP
      have hD : va_D A [(ou, .inl (dC 101, 1, .inr (.inl f0))), (m0, .inr (10, [r0_55, r1_56, r2_57, r3_58, r4_59, r5_60, r6_61, r7_62, r8_63, r9_64, r10_65, r11_66, r12_67, r13_68, r14_69, r15_70, .int 1]))] := hD
      refine W.widen (k := 405) (n := 120041) (Nat.le_of_ble_eq_true rfl) (Nat.le_of_ble_eq_true rfl) ?_
      refine lv_iload hx hb dM_L_law_2948 (lv_at hl 1 rfl) ?_
      refine lv_icmp_eq (tgt := 2955) hx hb dM_L_law_2950 (by decide) (fun _ => ?_) (fun q => absurd (by decide) q)
      refine lv_iload hx hb dM_L_law_2955 (lv_at hl 1 rfl) ?_
      refine lv_if_ne (tgt := 2972) hx hb dM_L_law_2957 (by decide) (fun _ => ?_) (fun q => absurd q (by decide))
      refine lv_goto (tgt := 3410) hx hb dM_L_law_2972 (by decide) ?_
      refine W.widen (k := 600002) (n := 7302232) (Nat.le_of_ble_eq_true rfl) (Nat.le_of_ble_eq_true rfl) ?_
      exact hend _ _ _ hS (lv_sub hl [6, 2] rfl)
  · --
    obtain rfl := hu_19.symm
    obtain ⟨hP1, hD1⟩ := hB
    rw [ht] at hP1
    obtain ⟨hP, hD⟩ := va_join (wr := [(m0, .inr (10, [.ref nw, z1, z2, z3, z4, z5, z6, z7, z8, z9, z10, z11, z12, z13, z14, z15, z16])), (nw, .inr (12, [t0, t1, .int 0, t3, t4, t5, t6, t7, t8, t9, t10, .int 0, t12, t13, t14, t15, t16, t17, t18, .int 0, t20, t21]))]) (w1 := [(ou, .inl (dC 101, 1, .inr (.inl f0)))]) hP hD [0, 1, 2] [3, 4] rfl rfl (by decide) (by decide) hk1 hFc hP1 hD1
    generalize H1 = H at hP hS ⊢
    have hP : va_P (dC, dI) classes [(m0, .inr (10, [.ref nw, z1, z2, z3, z4, z5, z6, z7, z8, z9, z10, z11, z12, z13, z14, z15, z16])), (nw, .inr (12, [t0, t1, .int 0, t3, t4, t5, t6, t7, t8, t9, t10, .int 0, t12, t13, t14, t15, t16, t17, t18, .int 0, t20, t21])), (ou, .inl (dC 101, 1, .inr (.inl f0)))] H := hP
    have hD : va_D A [(m0, .inr (10, [.ref nw, z1, z2, z3, z4, z5, z6, z7, z8, z9, z10, z11, z12, z13, z14, z15, z16])), (nw, .inr (12, [t0, t1, .int 0, t3, t4, t5, t6, t7, t8, t9, t10, .int 0, t12, t13, t14, t15, t16, t17, t18, .int 0, t20, t21])), (ou, .inl (dC 101, 1, .inr (.inl f0)))] := hD
    refine W.widen (k := 405) (n := 120041) (Nat.le_of_ble_eq_true rfl) (Nat.le_of_ble_eq_true rfl) ?_
    refine lv_istore (lv' := [(5, .int 2), (0, .ref b), (1, .ref h0), (2, .ref m0), (3, .ref ou), (4, .int 0)]) hx hb dM_L_law_2889 hl (by decide) rfl (fun ls hl => ?_)
    refine lv_aload_n hx hb dM_L_law_2891 rfl (lv_at hl 3 rfl) ?_
    refine lv_aload_n hx hb dM_L_law_2892 rfl (lv_at hl 1 rfl) ?_
    refine lv_iload hx hb dM_L_law_2893 (lv_at hl 5 rfl) ?_
    refine lv_iconst (v := 1) hx hb dM_L_law_2895 (by decide) ?_
    refine lv_iadd hx hb dM_L_law_2896 ?_
    refine lv_topi (fun y_71 ey_71 => ?_)
    obtain rfl : y_71 = 1 := ey_71.trans (by decide)
    refine va_sld hx hb hX hbl hbA hS (by unfold vp_in; decide) dM_L_law_2897 ?_
    refine lv_topi (fun y_72 ey_72 => ?_)
    obtain rfl : y_2 = y_72 := ey_2.trans ey_72.symm
    refine lv_aload_n hx hb dM_L_law_2898 rfl (lv_at hl 1 rfl) ?_
    refine lv_iload hx hb dM_L_law_2899 (lv_at hl 5 rfl) ?_
    refine lv_iconst (v := 2) hx hb dM_L_law_2901 (by decide) ?_
    refine lv_iadd hx hb dM_L_law_2902 ?_
    refine lv_topi (fun y_73 ey_73 => ?_)
    obtain rfl : y_73 = 2 := ey_73.trans (by decide)
    refine va_sld hx hb hX hbl hbA hS (by unfold vp_in; decide) dM_L_law_2903 ?_
    refine lv_topi (fun y_74 ey_74 => ?_)
    obtain rfl : y_4 = y_74 := ey_4.trans ey_74.symm
    refine lv_aload_n hx hb dM_L_law_2904 rfl (lv_at hl 1 rfl) ?_
    refine lv_iload hx hb dM_L_law_2905 (lv_at hl 5 rfl) ?_
    refine lv_iconst (v := 3) hx hb dM_L_law_2907 (by decide) ?_
    refine lv_iadd hx hb dM_L_law_2908 ?_
    refine lv_topi (fun y_75 ey_75 => ?_)
    obtain rfl : y_75 = 3 := ey_75.trans (by decide)
    refine va_sld hx hb hX hbl hbA hS (by unfold vp_in; decide) dM_L_law_2909 ?_
    refine lv_topi (fun y_76 ey_76 => ?_)
    obtain rfl : y_6 = y_76 := ey_6.trans ey_76.symm
    refine lv_aload_n hx hb dM_L_law_2910 rfl (lv_at hl 1 rfl) ?_
    refine lv_iload hx hb dM_L_law_2911 (lv_at hl 5 rfl) ?_
    refine lv_iconst (v := 4) hx hb dM_L_law_2913 (by decide) ?_
    refine lv_iadd hx hb dM_L_law_2914 ?_
    refine lv_topi (fun y_77 ey_77 => ?_)
    obtain rfl : y_77 = 4 := ey_77.trans (by decide)
    refine va_sld hx hb hX hbl hbA hS (by unfold vp_in; decide) dM_L_law_2915 ?_
    refine lv_topi (fun y_78 ey_78 => ?_)
    obtain rfl : y_8 = y_78 := ey_8.trans ey_78.symm
    refine lv_aload_n hx hb dM_L_law_2916 rfl (lv_at hl 1 rfl) ?_
    refine lv_iload hx hb dM_L_law_2917 (lv_at hl 5 rfl) ?_
    refine lv_iconst (v := 5) hx hb dM_L_law_2919 (by decide) ?_
    refine lv_iadd hx hb dM_L_law_2920 ?_
    refine lv_topi (fun y_79 ey_79 => ?_)
    obtain rfl : y_79 = 5 := ey_79.trans (by decide)
    refine va_sld hx hb hX hbl hbA hS (by unfold vp_in; decide) dM_L_law_2921 ?_
    refine lv_topi (fun y_80 ey_80 => ?_)
    obtain rfl : y_10 = y_80 := ey_10.trans ey_80.symm
    refine lv_i2l (v := y_10.toInt64) hx hb dM_L_law_2922 rfl ?_
    refine lv_bipush (v := 32) hx hb dM_L_law_2923 (by decide) ?_
    refine lv_lshl (v := y_10.toInt64 <<< ((32 : Int32).toInt64 &&& 63)) hx hb dM_L_law_2925 rfl ?_
    refine lv_aload_n hx hb dM_L_law_2926 rfl (lv_at hl 1 rfl) ?_
    refine lv_iload hx hb dM_L_law_2927 (lv_at hl 5 rfl) ?_
    refine lv_bipush (v := 6) hx hb dM_L_law_2929 (by decide) ?_
    refine lv_iadd hx hb dM_L_law_2931 ?_
    refine lv_topi (fun y_81 ey_81 => ?_)
    obtain rfl : y_81 = 6 := ey_81.trans (by decide)
    refine va_sld hx hb hX hbl hbA hS (by unfold vp_in; decide) dM_L_law_2932 ?_
    refine lv_topi (fun y_82 ey_82 => ?_)
    obtain rfl : y_12 = y_82 := ey_12.trans ey_82.symm
    refine lv_i2l (v := y_12.toInt64) hx hb dM_L_law_2933 rfl ?_
    refine lv_ldc2 (v := 4294967295) hx hb hown (hbg _ wd_2851) dM_L_law_2934 ?_
    refine lv_land hx hb dM_L_law_2937 ?_
    refine lv_topl (fun y_83 ey_83 => ?_)
    obtain rfl : y_13 = y_83 := ey_13.trans ey_83.symm
    refine lv_lor hx hb dM_L_law_2938 ?_
    refine lv_topl (fun y_84 ey_84 => ?_)
    obtain rfl : y_14 = y_84 := ey_14.trans ey_84.symm
    have hFc := va_free (wc := [(m0, .inr (10, [.ref nw, z1, z2, z3, z4, z5, z6, z7, z8, z9, z10, z11, z12, z13, z14, z15, z16])), (nw, .inr (12, [t0, t1, .int 0, t3, t4, t5, t6, t7, t8, t9, t10, .int 0, t12, t13, t14, t15, t16, t17, t18, .int 0, t20, t21]))]) hD hS hA [0, 1] rfl
    refine va_calli (va_runV (As := [.int y_2, .int y_4, .int y_6, .int y_8, .long y_14]) (rest := []) ⟨hx, hb, hml, hown, hbg⟩ (c_M_overlay l dC dI m0 y_2 y_4 y_6 y_8 y_14 nw z1 z2 z3 z4 z5 z6 z7 z8 z9 z10 z11 z12 z13 z14 z15 z16 t0 t1 t3 t4 t5 t6 t7 t8 t9 t10 t12 t13 t14 t15 t16 t17 t18 t20 t21 _ ) (cwV 5 hbg (gd_V (fun _ h => h) wd_2819 wd_2820 wd_2821 wd_12 (gd_wm (fun _ h => h) wd_2822)) rfl rfl rfl (by decide +kernel) ⟨Nat.le_of_ble_eq_true rfl, Nat.le_of_ble_eq_true rfl⟩) (nPreV [0, 1] hP hD hK hN hS hA (by decide) rfl 0 rfl rfl) rfl rfl hl.1 rfl (lv_room (Nat.le_of_ble_eq_true rfl)) dM_L_law_2939 ⟨Nat.le_of_ble_eq_true rfl, Nat.le_of_ble_eq_true rfl⟩) hS (fun q _ h => hFc q h) hFc (fun r_85 u t H1 locs ht hvm hw hB hz1 hk1 hS => ?_)
    rcases hw with ⟨c_86, rfl, rfl⟩ | ⟨c_87, rfl, rfl⟩
    · --
      obtain ⟨r0_88, r1_89, r2_90, r3_91, r4_92, r5_93, r6_94, r7_95, r8_96, r9_97, r10_98, r11_99, r12_100, r13_101, r14_102, r15_103, hP1, hD1⟩ := hB
      rw [ht] at hP1
      obtain ⟨hP, hD⟩ := va_join (wr := [(ou, .inl (dC 101, 1, .inr (.inl f0)))]) (w1 := [(m0, .inr (10, [r0_88, r1_89, r2_90, r3_91, r4_92, r5_93, r6_94, r7_95, r8_96, r9_97, r10_98, r11_99, r12_100, r13_101, r14_102, r15_103, .int 2]))]) hP hD [0, 1] [2] rfl rfl (by decide) (by decide) hk1 hFc hP1 hD1
      generalize H1 = H at hP hS ⊢
      have hP : va_P (dC, dI) classes [(ou, .inl (dC 101, 1, .inr (.inl f0))), (m0, .inr (10, [r0_88, r1_89, r2_90, r3_91, r4_92, r5_93, r6_94, r7_95, r8_96, r9_97, r10_98, r11_99, r12_100, r13_101, r14_102, r15_103, .int 2]))] H := hP
      have hD : va_D A [(ou, .inl (dC 101, 1, .inr (.inl f0))), (m0, .inr (10, [r0_88, r1_89, r2_90, r3_91, r4_92, r5_93, r6_94, r7_95, r8_96, r9_97, r10_98, r11_99, r12_100, r13_101, r14_102, r15_103, .int 2]))] := hD
      refine W.widen (k := 405) (n := 120041) (Nat.le_of_ble_eq_true rfl) (Nat.le_of_ble_eq_true rfl) ?_
      refine lv_istore (lv' := [(6, .int 0), (5, .int 2), (0, .ref b), (1, .ref h0), (2, .ref m0), (3, .ref ou), (4, .int 0)]) hx hb dM_L_law_2942 hl (by decide) rfl (fun ls hl => ?_)
      refine lv_aload_n hx hb dM_L_law_2944 rfl (lv_at hl 4 rfl) ?_
      have hFc := va_free (wc := [(m0, .inr (10, [r0_88, r1_89, r2_90, r3_91, r4_92, r5_93, r6_94, r7_95, r8_96, r9_97, r10_98, r11_99, r12_100, r13_101, r14_102, r15_103, .int 2]))]) hD hS hA [1] rfl
      refine va_calli (va_runV (As := []) (rest := []) ⟨hx, hb, hml, hown, hbg⟩ (c_M_thrown l dC dI m0 r0_88 r1_89 r2_90 r3_91 r4_92 r5_93 r6_94 r7_95 r8_96 r9_97 r10_98 r11_99 r12_100 r13_101 r14_102 r15_103 2 _ ) (cwV 0 hbg (gd_V (fun _ h => h) wd_2190 wd_2191 wd_2192 wd_12 (gd_wm (fun _ h => h) wd_2193)) rfl rfl rfl (by decide +kernel) ⟨Nat.le_of_ble_eq_true rfl, Nat.le_of_ble_eq_true rfl⟩) (nPreV [1] hP hD hK hN hS hA (by decide) rfl 1 rfl rfl) rfl rfl hl.1 rfl (lv_room (Nat.le_of_ble_eq_true rfl)) dM_L_law_2945 ⟨Nat.le_of_ble_eq_true rfl, Nat.le_of_ble_eq_true rfl⟩) hS (fun q _ h => hFc q h) hFc (fun r_104 u t H1 locs ht hvm hw hB hz1 hk1 hS => ?_)
      obtain ⟨rfl, rfl⟩ := hw
      obtain ⟨r0_106, r1_107, r2_108, r3_109, r4_110, r5_111, r6_112, r7_113, r8_114, r9_115, r10_116, r11_117, r12_118, r13_119, r14_120, r15_121, hP1, hD1⟩ := hB
      rw [ht] at hP1
      obtain ⟨hP, hD⟩ := va_join (wr := [(ou, .inl (dC 101, 1, .inr (.inl f0)))]) (w1 := [(m0, .inr (10, [r0_106, r1_107, r2_108, r3_109, r4_110, r5_111, r6_112, r7_113, r8_114, r9_115, r10_116, r11_117, r12_118, r13_119, r14_120, r15_121, .int 2]))]) hP hD [1] [0] rfl rfl (by decide) (by decide) hk1 hFc hP1 hD1
      generalize H1 = H at hP hS ⊢
      have hP : va_P (dC, dI) classes [(ou, .inl (dC 101, 1, .inr (.inl f0))), (m0, .inr (10, [r0_106, r1_107, r2_108, r3_109, r4_110, r5_111, r6_112, r7_113, r8_114, r9_115, r10_116, r11_117, r12_118, r13_119, r14_120, r15_121, .int 2]))] H := hP
      have hD : va_D A [(ou, .inl (dC 101, 1, .inr (.inl f0))), (m0, .inr (10, [r0_106, r1_107, r2_108, r3_109, r4_110, r5_111, r6_112, r7_113, r8_114, r9_115, r10_116, r11_117, r12_118, r13_119, r14_120, r15_121, .int 2]))] := hD
      refine W.widen (k := 405) (n := 120041) (Nat.le_of_ble_eq_true rfl) (Nat.le_of_ble_eq_true rfl) ?_
      refine lv_iload hx hb dM_L_law_2948 (lv_at hl 1 rfl) ?_
      refine lv_icmp_eq (tgt := 2955) hx hb dM_L_law_2950 (by decide) (fun _ => ?_) (fun q => absurd (by decide) q)
      refine lv_iload hx hb dM_L_law_2955 (lv_at hl 1 rfl) ?_
      refine lv_if_ne (tgt := 2972) hx hb dM_L_law_2957 (by decide) (fun _ => ?_) (fun q => absurd q (by decide))
      refine lv_goto (tgt := 3410) hx hb dM_L_law_2972 (by decide) ?_
      refine W.widen (k := 600002) (n := 7302232) (Nat.le_of_ble_eq_true rfl) (Nat.le_of_ble_eq_true rfl) ?_
      exact hend _ _ _ hS (lv_sub hl [6, 2] rfl)
    · --
      exact absurd c_18 c_87
set_option maxHeartbeats 4000000 in
set_option maxRecDepth 100000 in
theorem lawc_38 {p : Program} {e : Env} {s : State} {m : MethodId} {below : List Frame} {meth : Method} {c : Code} {Z : State → Prop} (l : Launch) (hl9 : l.stackTraces = false) (dC : Nat → ClassId) (dI : Nat → Nat → Nat) {A : Nat → Prop} {b L : Nat} {xs : Nat → Int32} (hL : L = 8) (hx : p.tables.exec = Jvm.exec) (hb : c.code = cM_L_law) (hml : c.maxLocals = 8) (hown : s.vm.findClass "NoteDocumentLaw" = some m.cls) (hbg : ∀ w ∈ BIG, w.before #[Value.ref b] s = true) (hK : nK (dC, dI) s) (hN : nS A s s.heap) (hA : ∀ q : Nat, s.heap.size ≤ q → A q) (hX : va_X b L xs s s.heap) (hbl : b < s.heap.size) (hbA : ¬ A b) {H : Heap} {locs : List Loc} {ls : Array Slot} {h0 : Nat} {m0 : Nat} {ou : Nat} {st : Nat} {no : Nat} {ch : Nat} {he : Nat} {de : Nat} {fi : Nat} {v6 : Value} {kp : Nat} {a_columns : Nat} {a_rows : Nat} {a_content : Nat} {a_held : Nat} {a_other : Nat} {a_named : Nat} {a_body : Nat} {a_parts : Nat} {a_partCount : Nat} {a_refRow : Nat} {a_refColumn : Nat} {a_refToRow : Nat} {a_torn : Nat} {a_record : Nat} {g_columns : Nat → Int32} {g_rows : Nat → Int32} {g_content : Nat → Int64} {g_held : Nat → Int64} {g_other : Nat → Int64} {g_named : Nat → Int32} {g_body : Nat → Int32} {g_parts : Nat → Int32} {g_partCount : Nat → Int32} {g_refRow : Nat → Int32} {g_refColumn : Nat → Int32} {g_refToRow : Nat → Int32} {g_torn : Nat → Int32} {g_record : Nat → Int32} {gk : Nat → Option Nat} {k0 : Nat} {ak_columns : Nat} {ak_rows : Nat} {ak_content : Nat} {ak_held : Nat} {ak_other : Nat} {ak_named : Nat} {ak_body : Nat} {ak_parts : Nat} {ak_partCount : Nat} {ak_refRow : Nat} {ak_refColumn : Nat} {ak_refToRow : Nat} {ak_torn : Nat} {ak_record : Nat} {gk_columns : Nat → Int32} {gk_rows : Nat → Int32} {gk_content : Nat → Int64} {gk_held : Nat → Int64} {gk_other : Nat → Int64} {gk_named : Nat → Int32} {gk_body : Nat → Int32} {gk_parts : Nat → Int32} {gk_partCount : Nat → Int32} {gk_refRow : Nat → Int32} {gk_refColumn : Nat → Int32} {gk_refToRow : Nat → Int32} {gk_torn : Nat → Int32} {gk_record : Nat → Int32} {x2 : Value} {x4 : Value} {x6 : Value} {x7 : Value} {x8 : Value} {x9 : Value} {x10 : Value} {x11 : Value} {x12 : Value} {x13 : Value} {x14 : Value} {x15 : Value} {x16 : Value} {x17 : Value} {x18 : Value} {f0 : Nat → Int64} {nw : Nat} {kq : Nat} {z4 : Value} {z5 : Value} {z6 : Value} {z7 : Value} {z8 : Value} {z9 : Value} {z10 : Value} {z11 : Value} {z12 : Value} {en : Nat} {z14 : Value} {z15 : Value} {z16 : Value} {b_rows : Nat} {b_columns : Nat} {b_types : Nat} {b_numbers : Nat} {b_formulas : Nat} {b_held : Nat} {b_holds : Nat} {b_found : Nat} {b_names : Nat} {b_bodies : Nat} {b_parts : Nat} {b_noteParts : Nat} {b_over : Nat} {b_overs : Nat} {b_places : Nat} {b_torn : Nat} {f_rows : Nat → Int32} {f_columns : Nat → Int32} {f_types : Nat → Int32} {f_numbers : Nat → Int64} {f_formulas : Nat → Int32} {f_held : Nat → Int32} {f_holds : Nat → Int64} {f_found : Nat → Option Nat} {f_names : Nat → Int32} {f_bodies : Nat → Int32} {f_parts : Nat → Int32} {f_noteParts : Nat → Int32} {f_over : Nat → Int32} {f_overs : Nat → Int64} {f_places : Nat → Int32} {f_torn : Nat → Int32} {fq : Nat → Option Nat} {k9 : Nat} {bk_rows : Nat} {bk_columns : Nat} {bk_types : Nat} {bk_numbers : Nat} {bk_formulas : Nat} {bk_held : Nat} {bk_holds : Nat} {bk_found : Nat} {bk_names : Nat} {bk_bodies : Nat} {bk_parts : Nat} {bk_noteParts : Nat} {bk_over : Nat} {bk_overs : Nat} {bk_places : Nat} {bk_torn : Nat} {fk_rows : Nat → Int32} {fk_columns : Nat → Int32} {fk_types : Nat → Int32} {fk_numbers : Nat → Int64} {fk_formulas : Nat → Int32} {fk_held : Nat → Int32} {fk_holds : Nat → Int64} {fk_found : Nat → Option Nat} {fk_names : Nat → Int32} {fk_bodies : Nat → Int32} {fk_parts : Nat → Int32} {fk_noteParts : Nat → Int32} {fk_over : Nat → Int32} {fk_overs : Nat → Int64} {fk_places : Nat → Int32} {fk_torn : Nat → Int32} {e0 : Value} {e1 : Value} {e2 : Value} {e3 : Value} {e4 : Value} {cg : Int32} {e6 : Value} {e7 : Value} {e8 : Value} {e9 : Value} {e10 : Value} {e11 : Value} {e12 : Value} {e13 : Value} {e14 : Value} {e15 : Value} {e16 : Value} {e17 : Value} {e18 : Value} {e19 : Value} {e20 : Value} {e21 : Value} {e22 : Value} {e23 : Value} {e24 : Value} {e25 : Value} {e26 : Value} (hP : va_P (dC, dI) classes [(h0, .inr (0, [.ref st, .ref no, .ref ch, .ref he, .ref de, .ref fi, v6, .ref kp, .int 0, .int 0, .int 0])), (st, .inr (8, [.int 0, .int 0, .int 0, .ref a_columns, .ref a_rows, .ref a_content, .ref a_held, .ref a_other, .ref a_named, .ref a_body, .ref a_parts, .ref a_partCount, .ref a_refRow, .ref a_refColumn, .ref a_refToRow, .ref a_torn, .ref a_record, .int 0, .int 0, .int 0])), (a_columns, .inl (dC 100, 4, .inl g_columns)), (a_rows, .inl (dC 100, 4, .inl g_rows)), (a_content, .inl (dC 101, 200, .inr (.inl g_content))), (a_held, .inl (dC 101, 200, .inr (.inl g_held))), (a_other, .inl (dC 101, 600, .inr (.inl g_other))), (a_named, .inl (dC 100, 6, .inl g_named)), (a_body, .inl (dC 100, 4, .inl g_body)), (a_parts, .inl (dC 100, 24, .inl g_parts)), (a_partCount, .inl (dC 100, 3, .inl g_partCount)), (a_refRow, .inl (dC 100, 150, .inl g_refRow)), (a_refColumn, .inl (dC 100, 150, .inl g_refColumn)), (a_refToRow, .inl (dC 100, 150, .inl g_refToRow)), (a_torn, .inl (dC 102, 150, .inl g_torn)), (a_record, .inl (dC 100, 885, .inl g_record)), (kp, .inl (dC 103, 5, .inr (.inr (.inr (.inr gk))))), (k0, .inr (8, [.int 0, .int 0, .int 0, .ref ak_columns, .ref ak_rows, .ref ak_content, .ref ak_held, .ref ak_other, .ref ak_named, .ref ak_body, .ref ak_parts, .ref ak_partCount, .ref ak_refRow, .ref ak_refColumn, .ref ak_refToRow, .ref ak_torn, .ref ak_record, .int 0, .int 0, .int 0])), (ak_columns, .inl (dC 100, 4, .inl gk_columns)), (ak_rows, .inl (dC 100, 4, .inl gk_rows)), (ak_content, .inl (dC 101, 200, .inr (.inl gk_content))), (ak_held, .inl (dC 101, 200, .inr (.inl gk_held))), (ak_other, .inl (dC 101, 600, .inr (.inl gk_other))), (ak_named, .inl (dC 100, 6, .inl gk_named)), (ak_body, .inl (dC 100, 4, .inl gk_body)), (ak_parts, .inl (dC 100, 24, .inl gk_parts)), (ak_partCount, .inl (dC 100, 3, .inl gk_partCount)), (ak_refRow, .inl (dC 100, 150, .inl gk_refRow)), (ak_refColumn, .inl (dC 100, 150, .inl gk_refColumn)), (ak_refToRow, .inl (dC 100, 150, .inl gk_refToRow)), (ak_torn, .inl (dC 102, 150, .inl gk_torn)), (ak_record, .inl (dC 100, 885, .inl gk_record)), (de, .inr (2, [.ref st, .ref he, x2, .int 1, x4, .int 0, x6, x7, x8, x9, x10, x11, x12, x13, x14, x15, x16, x17, x18])), (ou, .inl (dC 101, 1, .inr (.inl f0))), (m0, .inr (10, [.ref nw, .ref kq, .int 0, .int 0, z4, z5, z6, z7, z8, z9, z10, z11, z12, .ref en, z14, z15, z16])), (nw, .inr (12, [.ref b_rows, .ref b_columns, .int 0, .ref b_types, .ref b_numbers, .ref b_formulas, .ref b_held, .ref b_holds, .ref b_found, .ref b_names, .ref b_bodies, .int 0, .ref b_parts, .ref b_noteParts, .ref b_over, .ref b_overs, .long 0, .long 0, .int 0, .int 0, .ref b_places, .ref b_torn])), (b_rows, .inl (dC 100, 4, .inl f_rows)), (b_columns, .inl (dC 100, 4, .inl f_columns)), (b_types, .inl (dC 100, 200, .inl f_types)), (b_numbers, .inl (dC 101, 200, .inr (.inl f_numbers))), (b_formulas, .inl (dC 100, 200, .inl f_formulas)), (b_held, .inl (dC 102, 200, .inl f_held)), (b_holds, .inl (dC 101, 200, .inr (.inl f_holds))), (b_found, .inl (dC 105, 885, .inr (.inr (.inr (.inr f_found))))), (b_names, .inl (dC 100, 6, .inl f_names)), (b_bodies, .inl (dC 100, 4, .inl f_bodies)), (b_parts, .inl (dC 100, 3, .inl f_parts)), (b_noteParts, .inl (dC 100, 72, .inl f_noteParts)), (b_over, .inl (dC 102, 600, .inl f_over)), (b_overs, .inl (dC 101, 600, .inr (.inl f_overs))), (b_places, .inl (dC 100, 750, .inl f_places)), (b_torn, .inl (dC 102, 150, .inl f_torn)), (kq, .inl (dC 104, 5, .inr (.inr (.inr (.inr fq))))), (k9, .inr (12, [.ref bk_rows, .ref bk_columns, .int 0, .ref bk_types, .ref bk_numbers, .ref bk_formulas, .ref bk_held, .ref bk_holds, .ref bk_found, .ref bk_names, .ref bk_bodies, .int 0, .ref bk_parts, .ref bk_noteParts, .ref bk_over, .ref bk_overs, .long 0, .long 0, .int 0, .int 0, .ref bk_places, .ref bk_torn])), (bk_rows, .inl (dC 100, 4, .inl fk_rows)), (bk_columns, .inl (dC 100, 4, .inl fk_columns)), (bk_types, .inl (dC 100, 200, .inl fk_types)), (bk_numbers, .inl (dC 101, 200, .inr (.inl fk_numbers))), (bk_formulas, .inl (dC 100, 200, .inl fk_formulas)), (bk_held, .inl (dC 102, 200, .inl fk_held)), (bk_holds, .inl (dC 101, 200, .inr (.inl fk_holds))), (bk_found, .inl (dC 105, 885, .inr (.inr (.inr (.inr fk_found))))), (bk_names, .inl (dC 100, 6, .inl fk_names)), (bk_bodies, .inl (dC 100, 4, .inl fk_bodies)), (bk_parts, .inl (dC 100, 3, .inl fk_parts)), (bk_noteParts, .inl (dC 100, 72, .inl fk_noteParts)), (bk_over, .inl (dC 102, 600, .inl fk_over)), (bk_overs, .inl (dC 101, 600, .inr (.inl fk_overs))), (bk_places, .inl (dC 100, 750, .inl fk_places)), (bk_torn, .inl (dC 102, 150, .inl fk_torn)), (en, .inr (11, [e0, e1, e2, e3, e4, .int cg, e6, e7, e8, e9, e10, e11, e12, e13, e14, e15, e16, e17, e18, e19, e20, e21, e22, e23, e24, e25, e26]))] H) (hD : va_D A [(h0, .inr (0, [.ref st, .ref no, .ref ch, .ref he, .ref de, .ref fi, v6, .ref kp, .int 0, .int 0, .int 0])), (st, .inr (8, [.int 0, .int 0, .int 0, .ref a_columns, .ref a_rows, .ref a_content, .ref a_held, .ref a_other, .ref a_named, .ref a_body, .ref a_parts, .ref a_partCount, .ref a_refRow, .ref a_refColumn, .ref a_refToRow, .ref a_torn, .ref a_record, .int 0, .int 0, .int 0])), (a_columns, .inl (dC 100, 4, .inl g_columns)), (a_rows, .inl (dC 100, 4, .inl g_rows)), (a_content, .inl (dC 101, 200, .inr (.inl g_content))), (a_held, .inl (dC 101, 200, .inr (.inl g_held))), (a_other, .inl (dC 101, 600, .inr (.inl g_other))), (a_named, .inl (dC 100, 6, .inl g_named)), (a_body, .inl (dC 100, 4, .inl g_body)), (a_parts, .inl (dC 100, 24, .inl g_parts)), (a_partCount, .inl (dC 100, 3, .inl g_partCount)), (a_refRow, .inl (dC 100, 150, .inl g_refRow)), (a_refColumn, .inl (dC 100, 150, .inl g_refColumn)), (a_refToRow, .inl (dC 100, 150, .inl g_refToRow)), (a_torn, .inl (dC 102, 150, .inl g_torn)), (a_record, .inl (dC 100, 885, .inl g_record)), (kp, .inl (dC 103, 5, .inr (.inr (.inr (.inr gk))))), (k0, .inr (8, [.int 0, .int 0, .int 0, .ref ak_columns, .ref ak_rows, .ref ak_content, .ref ak_held, .ref ak_other, .ref ak_named, .ref ak_body, .ref ak_parts, .ref ak_partCount, .ref ak_refRow, .ref ak_refColumn, .ref ak_refToRow, .ref ak_torn, .ref ak_record, .int 0, .int 0, .int 0])), (ak_columns, .inl (dC 100, 4, .inl gk_columns)), (ak_rows, .inl (dC 100, 4, .inl gk_rows)), (ak_content, .inl (dC 101, 200, .inr (.inl gk_content))), (ak_held, .inl (dC 101, 200, .inr (.inl gk_held))), (ak_other, .inl (dC 101, 600, .inr (.inl gk_other))), (ak_named, .inl (dC 100, 6, .inl gk_named)), (ak_body, .inl (dC 100, 4, .inl gk_body)), (ak_parts, .inl (dC 100, 24, .inl gk_parts)), (ak_partCount, .inl (dC 100, 3, .inl gk_partCount)), (ak_refRow, .inl (dC 100, 150, .inl gk_refRow)), (ak_refColumn, .inl (dC 100, 150, .inl gk_refColumn)), (ak_refToRow, .inl (dC 100, 150, .inl gk_refToRow)), (ak_torn, .inl (dC 102, 150, .inl gk_torn)), (ak_record, .inl (dC 100, 885, .inl gk_record)), (de, .inr (2, [.ref st, .ref he, x2, .int 1, x4, .int 0, x6, x7, x8, x9, x10, x11, x12, x13, x14, x15, x16, x17, x18])), (ou, .inl (dC 101, 1, .inr (.inl f0))), (m0, .inr (10, [.ref nw, .ref kq, .int 0, .int 0, z4, z5, z6, z7, z8, z9, z10, z11, z12, .ref en, z14, z15, z16])), (nw, .inr (12, [.ref b_rows, .ref b_columns, .int 0, .ref b_types, .ref b_numbers, .ref b_formulas, .ref b_held, .ref b_holds, .ref b_found, .ref b_names, .ref b_bodies, .int 0, .ref b_parts, .ref b_noteParts, .ref b_over, .ref b_overs, .long 0, .long 0, .int 0, .int 0, .ref b_places, .ref b_torn])), (b_rows, .inl (dC 100, 4, .inl f_rows)), (b_columns, .inl (dC 100, 4, .inl f_columns)), (b_types, .inl (dC 100, 200, .inl f_types)), (b_numbers, .inl (dC 101, 200, .inr (.inl f_numbers))), (b_formulas, .inl (dC 100, 200, .inl f_formulas)), (b_held, .inl (dC 102, 200, .inl f_held)), (b_holds, .inl (dC 101, 200, .inr (.inl f_holds))), (b_found, .inl (dC 105, 885, .inr (.inr (.inr (.inr f_found))))), (b_names, .inl (dC 100, 6, .inl f_names)), (b_bodies, .inl (dC 100, 4, .inl f_bodies)), (b_parts, .inl (dC 100, 3, .inl f_parts)), (b_noteParts, .inl (dC 100, 72, .inl f_noteParts)), (b_over, .inl (dC 102, 600, .inl f_over)), (b_overs, .inl (dC 101, 600, .inr (.inl f_overs))), (b_places, .inl (dC 100, 750, .inl f_places)), (b_torn, .inl (dC 102, 150, .inl f_torn)), (kq, .inl (dC 104, 5, .inr (.inr (.inr (.inr fq))))), (k9, .inr (12, [.ref bk_rows, .ref bk_columns, .int 0, .ref bk_types, .ref bk_numbers, .ref bk_formulas, .ref bk_held, .ref bk_holds, .ref bk_found, .ref bk_names, .ref bk_bodies, .int 0, .ref bk_parts, .ref bk_noteParts, .ref bk_over, .ref bk_overs, .long 0, .long 0, .int 0, .int 0, .ref bk_places, .ref bk_torn])), (bk_rows, .inl (dC 100, 4, .inl fk_rows)), (bk_columns, .inl (dC 100, 4, .inl fk_columns)), (bk_types, .inl (dC 100, 200, .inl fk_types)), (bk_numbers, .inl (dC 101, 200, .inr (.inl fk_numbers))), (bk_formulas, .inl (dC 100, 200, .inl fk_formulas)), (bk_held, .inl (dC 102, 200, .inl fk_held)), (bk_holds, .inl (dC 101, 200, .inr (.inl fk_holds))), (bk_found, .inl (dC 105, 885, .inr (.inr (.inr (.inr fk_found))))), (bk_names, .inl (dC 100, 6, .inl fk_names)), (bk_bodies, .inl (dC 100, 4, .inl fk_bodies)), (bk_parts, .inl (dC 100, 3, .inl fk_parts)), (bk_noteParts, .inl (dC 100, 72, .inl fk_noteParts)), (bk_over, .inl (dC 102, 600, .inl fk_over)), (bk_overs, .inl (dC 101, 600, .inr (.inl fk_overs))), (bk_places, .inl (dC 100, 750, .inl fk_places)), (bk_torn, .inl (dC 102, 150, .inl fk_torn)), (en, .inr (11, [e0, e1, e2, e3, e4, .int cg, e6, e7, e8, e9, e10, e11, e12, e13, e14, e15, e16, e17, e18, e19, e20, e21, e22, e23, e24, e25, e26]))]) (hS : va_S A s.heap H locs) (hl : lv_has ls 8 [(0, .ref b), (1, .ref h0), (2, .ref m0), (3, .ref ou), (4, .int 0)]) (hk0 : gk (0 : Int32).toNatClampNeg = some k0) (hoth : ∀ j, j < 600 → g_other j = 1125899906842624) (hfd : ∀ j, j < 885 → f_found j = none) (hk9 : fq (0 : Int32).toNatClampNeg = some k9) (hov : ∀ j, j < 600 → f_over j = 0) (hend : ∀ (H : Heap) (locs : List Loc) (ls : Array Slot), va_S A s.heap H locs → lv_has ls 8 [(4, .int 0), (0, .ref b)] → W p l e room_1 s m #[Value.ref b] below meth c H locs 600002 7302232 Z (F0 m 3410 ls [])) : W p l e room_1 s m #[Value.ref b] below meth c H locs 403 120029 Z (F0 m 2975 ls []) := by
  subst hL
  refine lv_aload_n hx hb dM_L_law_2975 rfl (lv_at hl 1 rfl) ?_
  refine lv_aload_n hx hb dM_L_law_2976 rfl (lv_at hl 0 rfl) ?_
  refine lv_iload hx hb dM_L_law_2977 (lv_at hl 4 rfl) ?_
  refine lv_iconst (v := 1) hx hb dM_L_law_2979 (by decide) ?_
  refine lv_iadd hx hb dM_L_law_2980 ?_
  refine lv_topi (fun y_1 ey_1 => ?_)
  obtain rfl : y_1 = 1 := ey_1.trans (by decide)
  refine va_sld hx hb hX hbl hbA hS (by unfold vp_in; decide) dM_L_law_2981 ?_
  refine lv_topi (fun y_2 ey_2 => ?_)
  refine lv_aload_n hx hb dM_L_law_2982 rfl (lv_at hl 3 rfl) ?_
  have hFc := va_free (wc := [(h0, .inr (0, [.ref st, .ref no, .ref ch, .ref he, .ref de, .ref fi, v6, .ref kp, .int 0, .int 0, .int 0])), (st, .inr (8, [.int 0, .int 0, .int 0, .ref a_columns, .ref a_rows, .ref a_content, .ref a_held, .ref a_other, .ref a_named, .ref a_body, .ref a_parts, .ref a_partCount, .ref a_refRow, .ref a_refColumn, .ref a_refToRow, .ref a_torn, .ref a_record, .int 0, .int 0, .int 0])), (a_columns, .inl (dC 100, 4, .inl g_columns)), (a_rows, .inl (dC 100, 4, .inl g_rows)), (a_content, .inl (dC 101, 200, .inr (.inl g_content))), (a_held, .inl (dC 101, 200, .inr (.inl g_held))), (a_other, .inl (dC 101, 600, .inr (.inl g_other))), (a_named, .inl (dC 100, 6, .inl g_named)), (a_body, .inl (dC 100, 4, .inl g_body)), (a_parts, .inl (dC 100, 24, .inl g_parts)), (a_partCount, .inl (dC 100, 3, .inl g_partCount)), (a_refRow, .inl (dC 100, 150, .inl g_refRow)), (a_refColumn, .inl (dC 100, 150, .inl g_refColumn)), (a_refToRow, .inl (dC 100, 150, .inl g_refToRow)), (a_torn, .inl (dC 102, 150, .inl g_torn)), (a_record, .inl (dC 100, 885, .inl g_record)), (kp, .inl (dC 103, 5, .inr (.inr (.inr (.inr gk))))), (k0, .inr (8, [.int 0, .int 0, .int 0, .ref ak_columns, .ref ak_rows, .ref ak_content, .ref ak_held, .ref ak_other, .ref ak_named, .ref ak_body, .ref ak_parts, .ref ak_partCount, .ref ak_refRow, .ref ak_refColumn, .ref ak_refToRow, .ref ak_torn, .ref ak_record, .int 0, .int 0, .int 0])), (ak_columns, .inl (dC 100, 4, .inl gk_columns)), (ak_rows, .inl (dC 100, 4, .inl gk_rows)), (ak_content, .inl (dC 101, 200, .inr (.inl gk_content))), (ak_held, .inl (dC 101, 200, .inr (.inl gk_held))), (ak_other, .inl (dC 101, 600, .inr (.inl gk_other))), (ak_named, .inl (dC 100, 6, .inl gk_named)), (ak_body, .inl (dC 100, 4, .inl gk_body)), (ak_parts, .inl (dC 100, 24, .inl gk_parts)), (ak_partCount, .inl (dC 100, 3, .inl gk_partCount)), (ak_refRow, .inl (dC 100, 150, .inl gk_refRow)), (ak_refColumn, .inl (dC 100, 150, .inl gk_refColumn)), (ak_refToRow, .inl (dC 100, 150, .inl gk_refToRow)), (ak_torn, .inl (dC 102, 150, .inl gk_torn)), (ak_record, .inl (dC 100, 885, .inl gk_record)), (de, .inr (2, [.ref st, .ref he, x2, .int 1, x4, .int 0, x6, x7, x8, x9, x10, x11, x12, x13, x14, x15, x16, x17, x18])), (ou, .inl (dC 101, 1, .inr (.inl f0)))]) hD hS hA [0, 1, 2, 3, 4, 5, 6, 7, 8, 9, 10, 11, 12, 13, 14, 15, 16, 17, 18, 19, 20, 21, 22, 23, 24, 25, 26, 27, 28, 29, 30, 31, 32, 33] rfl
  refine va_calli (vx_runSW (As := [.ref h0, .int y_2, .ref ou]) (rest := []) ⟨hx, hb, hml, hown, hbg⟩ (c_L_drop l hl9 dC dI h0 y_2 ou st no ch he de fi v6 kp a_columns a_rows a_content a_held a_other a_named a_body a_parts a_partCount a_refRow a_refColumn a_refToRow a_torn a_record g_columns g_rows g_content g_held g_other g_named g_body g_parts g_partCount g_refRow g_refColumn g_refToRow g_torn g_record gk k0 ak_columns ak_rows ak_content ak_held ak_other ak_named ak_body ak_parts ak_partCount ak_refRow ak_refColumn ak_refToRow ak_torn ak_record gk_columns gk_rows gk_content gk_held gk_other gk_named gk_body gk_parts gk_partCount gk_refRow gk_refColumn gk_refToRow gk_torn gk_record x2 x4 x6 x7 x8 x9 x10 x11 x12 x13 x14 x15 x16 x17 x18 f0 _ (hk0) (hoth)) (vx_cwSW 3 hbg (gd_S (fun _ h => h) wd_1871 wd_1872 wd_0 (gd_wmW (fun _ h => h) wd_1873)) rfl rfl rfl (by decide +kernel) ⟨Nat.le_of_ble_eq_true rfl, Nat.le_of_ble_eq_true rfl⟩) (nPreS [0, 1, 2, 3, 4, 5, 6, 7, 8, 9, 10, 11, 12, 13, 14, 15, 16, 17, 18, 19, 20, 21, 22, 23, 24, 25, 26, 27, 28, 29, 30, 31, 32, 33] hP hD hK hN hS hA (by decide) rfl) rfl rfl hl.1 rfl (lv_room (Nat.le_of_ble_eq_true rfl)) dM_L_law_2983 ⟨Nat.le_of_ble_eq_true rfl, Nat.le_of_ble_eq_true rfl⟩) hS (fun q _ h => hFc q h) hFc (fun r_3 u t H1 locs ht hvm hw hB hz1 hk1 hS => ?_)
  rcases hw with ⟨c_4, rfl, rfl⟩ | ⟨c_5, rfl, hu_6⟩
  · --
    obtain ⟨hP1, hD1⟩ := hB
    rw [ht] at hP1
    obtain ⟨hP, hD⟩ := va_join (wr := [(m0, .inr (10, [.ref nw, .ref kq, .int 0, .int 0, z4, z5, z6, z7, z8, z9, z10, z11, z12, .ref en, z14, z15, z16])), (nw, .inr (12, [.ref b_rows, .ref b_columns, .int 0, .ref b_types, .ref b_numbers, .ref b_formulas, .ref b_held, .ref b_holds, .ref b_found, .ref b_names, .ref b_bodies, .int 0, .ref b_parts, .ref b_noteParts, .ref b_over, .ref b_overs, .long 0, .long 0, .int 0, .int 0, .ref b_places, .ref b_torn])), (b_rows, .inl (dC 100, 4, .inl f_rows)), (b_columns, .inl (dC 100, 4, .inl f_columns)), (b_types, .inl (dC 100, 200, .inl f_types)), (b_numbers, .inl (dC 101, 200, .inr (.inl f_numbers))), (b_formulas, .inl (dC 100, 200, .inl f_formulas)), (b_held, .inl (dC 102, 200, .inl f_held)), (b_holds, .inl (dC 101, 200, .inr (.inl f_holds))), (b_found, .inl (dC 105, 885, .inr (.inr (.inr (.inr f_found))))), (b_names, .inl (dC 100, 6, .inl f_names)), (b_bodies, .inl (dC 100, 4, .inl f_bodies)), (b_parts, .inl (dC 100, 3, .inl f_parts)), (b_noteParts, .inl (dC 100, 72, .inl f_noteParts)), (b_over, .inl (dC 102, 600, .inl f_over)), (b_overs, .inl (dC 101, 600, .inr (.inl f_overs))), (b_places, .inl (dC 100, 750, .inl f_places)), (b_torn, .inl (dC 102, 150, .inl f_torn)), (kq, .inl (dC 104, 5, .inr (.inr (.inr (.inr fq))))), (k9, .inr (12, [.ref bk_rows, .ref bk_columns, .int 0, .ref bk_types, .ref bk_numbers, .ref bk_formulas, .ref bk_held, .ref bk_holds, .ref bk_found, .ref bk_names, .ref bk_bodies, .int 0, .ref bk_parts, .ref bk_noteParts, .ref bk_over, .ref bk_overs, .long 0, .long 0, .int 0, .int 0, .ref bk_places, .ref bk_torn])), (bk_rows, .inl (dC 100, 4, .inl fk_rows)), (bk_columns, .inl (dC 100, 4, .inl fk_columns)), (bk_types, .inl (dC 100, 200, .inl fk_types)), (bk_numbers, .inl (dC 101, 200, .inr (.inl fk_numbers))), (bk_formulas, .inl (dC 100, 200, .inl fk_formulas)), (bk_held, .inl (dC 102, 200, .inl fk_held)), (bk_holds, .inl (dC 101, 200, .inr (.inl fk_holds))), (bk_found, .inl (dC 105, 885, .inr (.inr (.inr (.inr fk_found))))), (bk_names, .inl (dC 100, 6, .inl fk_names)), (bk_bodies, .inl (dC 100, 4, .inl fk_bodies)), (bk_parts, .inl (dC 100, 3, .inl fk_parts)), (bk_noteParts, .inl (dC 100, 72, .inl fk_noteParts)), (bk_over, .inl (dC 102, 600, .inl fk_over)), (bk_overs, .inl (dC 101, 600, .inr (.inl fk_overs))), (bk_places, .inl (dC 100, 750, .inl fk_places)), (bk_torn, .inl (dC 102, 150, .inl fk_torn)), (en, .inr (11, [e0, e1, e2, e3, e4, .int cg, e6, e7, e8, e9, e10, e11, e12, e13, e14, e15, e16, e17, e18, e19, e20, e21, e22, e23, e24, e25, e26]))]) (w1 := [(ou, .inl (dC 101, 1, .inr (.inl (vp_updL f0 (0 : Int32).toNatClampNeg 0))))]) hP hD [0, 1, 2, 3, 4, 5, 6, 7, 8, 9, 10, 11, 12, 13, 14, 15, 16, 17, 18, 19, 20, 21, 22, 23, 24, 25, 26, 27, 28, 29, 30, 31, 32, 33] [34, 35, 36, 37, 38, 39, 40, 41, 42, 43, 44, 45, 46, 47, 48, 49, 50, 51, 52, 53, 54, 55, 56, 57, 58, 59, 60, 61, 62, 63, 64, 65, 66, 67, 68, 69, 70] rfl rfl (by decide) (by decide) hk1 hFc hP1 hD1
    generalize H1 = H at hP hS ⊢
    have hP : va_P (dC, dI) classes [(m0, .inr (10, [.ref nw, .ref kq, .int 0, .int 0, z4, z5, z6, z7, z8, z9, z10, z11, z12, .ref en, z14, z15, z16])), (nw, .inr (12, [.ref b_rows, .ref b_columns, .int 0, .ref b_types, .ref b_numbers, .ref b_formulas, .ref b_held, .ref b_holds, .ref b_found, .ref b_names, .ref b_bodies, .int 0, .ref b_parts, .ref b_noteParts, .ref b_over, .ref b_overs, .long 0, .long 0, .int 0, .int 0, .ref b_places, .ref b_torn])), (b_rows, .inl (dC 100, 4, .inl f_rows)), (b_columns, .inl (dC 100, 4, .inl f_columns)), (b_types, .inl (dC 100, 200, .inl f_types)), (b_numbers, .inl (dC 101, 200, .inr (.inl f_numbers))), (b_formulas, .inl (dC 100, 200, .inl f_formulas)), (b_held, .inl (dC 102, 200, .inl f_held)), (b_holds, .inl (dC 101, 200, .inr (.inl f_holds))), (b_found, .inl (dC 105, 885, .inr (.inr (.inr (.inr f_found))))), (b_names, .inl (dC 100, 6, .inl f_names)), (b_bodies, .inl (dC 100, 4, .inl f_bodies)), (b_parts, .inl (dC 100, 3, .inl f_parts)), (b_noteParts, .inl (dC 100, 72, .inl f_noteParts)), (b_over, .inl (dC 102, 600, .inl f_over)), (b_overs, .inl (dC 101, 600, .inr (.inl f_overs))), (b_places, .inl (dC 100, 750, .inl f_places)), (b_torn, .inl (dC 102, 150, .inl f_torn)), (kq, .inl (dC 104, 5, .inr (.inr (.inr (.inr fq))))), (k9, .inr (12, [.ref bk_rows, .ref bk_columns, .int 0, .ref bk_types, .ref bk_numbers, .ref bk_formulas, .ref bk_held, .ref bk_holds, .ref bk_found, .ref bk_names, .ref bk_bodies, .int 0, .ref bk_parts, .ref bk_noteParts, .ref bk_over, .ref bk_overs, .long 0, .long 0, .int 0, .int 0, .ref bk_places, .ref bk_torn])), (bk_rows, .inl (dC 100, 4, .inl fk_rows)), (bk_columns, .inl (dC 100, 4, .inl fk_columns)), (bk_types, .inl (dC 100, 200, .inl fk_types)), (bk_numbers, .inl (dC 101, 200, .inr (.inl fk_numbers))), (bk_formulas, .inl (dC 100, 200, .inl fk_formulas)), (bk_held, .inl (dC 102, 200, .inl fk_held)), (bk_holds, .inl (dC 101, 200, .inr (.inl fk_holds))), (bk_found, .inl (dC 105, 885, .inr (.inr (.inr (.inr fk_found))))), (bk_names, .inl (dC 100, 6, .inl fk_names)), (bk_bodies, .inl (dC 100, 4, .inl fk_bodies)), (bk_parts, .inl (dC 100, 3, .inl fk_parts)), (bk_noteParts, .inl (dC 100, 72, .inl fk_noteParts)), (bk_over, .inl (dC 102, 600, .inl fk_over)), (bk_overs, .inl (dC 101, 600, .inr (.inl fk_overs))), (bk_places, .inl (dC 100, 750, .inl fk_places)), (bk_torn, .inl (dC 102, 150, .inl fk_torn)), (en, .inr (11, [e0, e1, e2, e3, e4, .int cg, e6, e7, e8, e9, e10, e11, e12, e13, e14, e15, e16, e17, e18, e19, e20, e21, e22, e23, e24, e25, e26])), (ou, .inl (dC 101, 1, .inr (.inl (vp_updL f0 (0 : Int32).toNatClampNeg 0))))] H := hP
    have hD : va_D A [(m0, .inr (10, [.ref nw, .ref kq, .int 0, .int 0, z4, z5, z6, z7, z8, z9, z10, z11, z12, .ref en, z14, z15, z16])), (nw, .inr (12, [.ref b_rows, .ref b_columns, .int 0, .ref b_types, .ref b_numbers, .ref b_formulas, .ref b_held, .ref b_holds, .ref b_found, .ref b_names, .ref b_bodies, .int 0, .ref b_parts, .ref b_noteParts, .ref b_over, .ref b_overs, .long 0, .long 0, .int 0, .int 0, .ref b_places, .ref b_torn])), (b_rows, .inl (dC 100, 4, .inl f_rows)), (b_columns, .inl (dC 100, 4, .inl f_columns)), (b_types, .inl (dC 100, 200, .inl f_types)), (b_numbers, .inl (dC 101, 200, .inr (.inl f_numbers))), (b_formulas, .inl (dC 100, 200, .inl f_formulas)), (b_held, .inl (dC 102, 200, .inl f_held)), (b_holds, .inl (dC 101, 200, .inr (.inl f_holds))), (b_found, .inl (dC 105, 885, .inr (.inr (.inr (.inr f_found))))), (b_names, .inl (dC 100, 6, .inl f_names)), (b_bodies, .inl (dC 100, 4, .inl f_bodies)), (b_parts, .inl (dC 100, 3, .inl f_parts)), (b_noteParts, .inl (dC 100, 72, .inl f_noteParts)), (b_over, .inl (dC 102, 600, .inl f_over)), (b_overs, .inl (dC 101, 600, .inr (.inl f_overs))), (b_places, .inl (dC 100, 750, .inl f_places)), (b_torn, .inl (dC 102, 150, .inl f_torn)), (kq, .inl (dC 104, 5, .inr (.inr (.inr (.inr fq))))), (k9, .inr (12, [.ref bk_rows, .ref bk_columns, .int 0, .ref bk_types, .ref bk_numbers, .ref bk_formulas, .ref bk_held, .ref bk_holds, .ref bk_found, .ref bk_names, .ref bk_bodies, .int 0, .ref bk_parts, .ref bk_noteParts, .ref bk_over, .ref bk_overs, .long 0, .long 0, .int 0, .int 0, .ref bk_places, .ref bk_torn])), (bk_rows, .inl (dC 100, 4, .inl fk_rows)), (bk_columns, .inl (dC 100, 4, .inl fk_columns)), (bk_types, .inl (dC 100, 200, .inl fk_types)), (bk_numbers, .inl (dC 101, 200, .inr (.inl fk_numbers))), (bk_formulas, .inl (dC 100, 200, .inl fk_formulas)), (bk_held, .inl (dC 102, 200, .inl fk_held)), (bk_holds, .inl (dC 101, 200, .inr (.inl fk_holds))), (bk_found, .inl (dC 105, 885, .inr (.inr (.inr (.inr fk_found))))), (bk_names, .inl (dC 100, 6, .inl fk_names)), (bk_bodies, .inl (dC 100, 4, .inl fk_bodies)), (bk_parts, .inl (dC 100, 3, .inl fk_parts)), (bk_noteParts, .inl (dC 100, 72, .inl fk_noteParts)), (bk_over, .inl (dC 102, 600, .inl fk_over)), (bk_overs, .inl (dC 101, 600, .inr (.inl fk_overs))), (bk_places, .inl (dC 100, 750, .inl fk_places)), (bk_torn, .inl (dC 102, 150, .inl fk_torn)), (en, .inr (11, [e0, e1, e2, e3, e4, .int cg, e6, e7, e8, e9, e10, e11, e12, e13, e14, e15, e16, e17, e18, e19, e20, e21, e22, e23, e24, e25, e26])), (ou, .inl (dC 101, 1, .inr (.inl (vp_updL f0 (0 : Int32).toNatClampNeg 0))))] := hD
    refine W.widen (k := 404) (n := 120035) (Nat.le_of_ble_eq_true rfl) (Nat.le_of_ble_eq_true rfl) ?_
    refine lv_istore (lv' := [(5, .int 0), (0, .ref b), (1, .ref h0), (2, .ref m0), (3, .ref ou), (4, .int 0)]) hx hb dM_L_law_2986 hl (by decide) rfl (fun ls hl => ?_)
    refine lv_aload_n hx hb dM_L_law_2988 rfl (lv_at hl 3 rfl) ?_
    refine lv_aload_n hx hb dM_L_law_2989 rfl (lv_at hl 1 rfl) ?_
    refine lv_iload hx hb dM_L_law_2990 (lv_at hl 5 rfl) ?_
    refine lv_iconst (v := 1) hx hb dM_L_law_2992 (by decide) ?_
    refine lv_iadd hx hb dM_L_law_2993 ?_
    refine lv_topi (fun y_7 ey_7 => ?_)
    obtain rfl : y_7 = 1 := ey_7.trans (by decide)
    refine va_sld hx hb hX hbl hbA hS (by unfold vp_in; decide) dM_L_law_2994 ?_
    refine lv_topi (fun y_8 ey_8 => ?_)
    obtain rfl : y_2 = y_8 := ey_2.trans ey_8.symm
    have hFc := va_free (wc := [(m0, .inr (10, [.ref nw, .ref kq, .int 0, .int 0, z4, z5, z6, z7, z8, z9, z10, z11, z12, .ref en, z14, z15, z16])), (nw, .inr (12, [.ref b_rows, .ref b_columns, .int 0, .ref b_types, .ref b_numbers, .ref b_formulas, .ref b_held, .ref b_holds, .ref b_found, .ref b_names, .ref b_bodies, .int 0, .ref b_parts, .ref b_noteParts, .ref b_over, .ref b_overs, .long 0, .long 0, .int 0, .int 0, .ref b_places, .ref b_torn])), (b_rows, .inl (dC 100, 4, .inl f_rows)), (b_columns, .inl (dC 100, 4, .inl f_columns)), (b_types, .inl (dC 100, 200, .inl f_types)), (b_numbers, .inl (dC 101, 200, .inr (.inl f_numbers))), (b_formulas, .inl (dC 100, 200, .inl f_formulas)), (b_held, .inl (dC 102, 200, .inl f_held)), (b_holds, .inl (dC 101, 200, .inr (.inl f_holds))), (b_found, .inl (dC 105, 885, .inr (.inr (.inr (.inr f_found))))), (b_names, .inl (dC 100, 6, .inl f_names)), (b_bodies, .inl (dC 100, 4, .inl f_bodies)), (b_parts, .inl (dC 100, 3, .inl f_parts)), (b_noteParts, .inl (dC 100, 72, .inl f_noteParts)), (b_over, .inl (dC 102, 600, .inl f_over)), (b_overs, .inl (dC 101, 600, .inr (.inl f_overs))), (b_places, .inl (dC 100, 750, .inl f_places)), (b_torn, .inl (dC 102, 150, .inl f_torn)), (kq, .inl (dC 104, 5, .inr (.inr (.inr (.inr fq))))), (k9, .inr (12, [.ref bk_rows, .ref bk_columns, .int 0, .ref bk_types, .ref bk_numbers, .ref bk_formulas, .ref bk_held, .ref bk_holds, .ref bk_found, .ref bk_names, .ref bk_bodies, .int 0, .ref bk_parts, .ref bk_noteParts, .ref bk_over, .ref bk_overs, .long 0, .long 0, .int 0, .int 0, .ref bk_places, .ref bk_torn])), (bk_rows, .inl (dC 100, 4, .inl fk_rows)), (bk_columns, .inl (dC 100, 4, .inl fk_columns)), (bk_types, .inl (dC 100, 200, .inl fk_types)), (bk_numbers, .inl (dC 101, 200, .inr (.inl fk_numbers))), (bk_formulas, .inl (dC 100, 200, .inl fk_formulas)), (bk_held, .inl (dC 102, 200, .inl fk_held)), (bk_holds, .inl (dC 101, 200, .inr (.inl fk_holds))), (bk_found, .inl (dC 105, 885, .inr (.inr (.inr (.inr fk_found))))), (bk_names, .inl (dC 100, 6, .inl fk_names)), (bk_bodies, .inl (dC 100, 4, .inl fk_bodies)), (bk_parts, .inl (dC 100, 3, .inl fk_parts)), (bk_noteParts, .inl (dC 100, 72, .inl fk_noteParts)), (bk_over, .inl (dC 102, 600, .inl fk_over)), (bk_overs, .inl (dC 101, 600, .inr (.inl fk_overs))), (bk_places, .inl (dC 100, 750, .inl fk_places)), (bk_torn, .inl (dC 102, 150, .inl fk_torn)), (en, .inr (11, [e0, e1, e2, e3, e4, .int cg, e6, e7, e8, e9, e10, e11, e12, e13, e14, e15, e16, e17, e18, e19, e20, e21, e22, e23, e24, e25, e26]))]) hD hS hA [0, 1, 2, 3, 4, 5, 6, 7, 8, 9, 10, 11, 12, 13, 14, 15, 16, 17, 18, 19, 20, 21, 22, 23, 24, 25, 26, 27, 28, 29, 30, 31, 32, 33, 34, 35, 36] rfl
    refine va_calli (va_runV (As := [.int y_2]) (rest := []) ⟨hx, hb, hml, hown, hbg⟩ (c_M_drop l dC dI m0 y_2 nw kq z4 z5 z6 z7 z8 z9 z10 z11 z12 en z14 z15 z16 b_rows b_columns b_types b_numbers b_formulas b_held b_holds b_found b_names b_bodies b_parts b_noteParts b_over b_overs b_places b_torn f_rows f_columns f_types f_numbers f_formulas f_held f_holds f_found f_names f_bodies f_parts f_noteParts f_over f_overs f_places f_torn fq k9 bk_rows bk_columns bk_types bk_numbers bk_formulas bk_held bk_holds bk_found bk_names bk_bodies bk_parts bk_noteParts bk_over bk_overs bk_places bk_torn fk_rows fk_columns fk_types fk_numbers fk_formulas fk_held fk_holds fk_found fk_names fk_bodies fk_parts fk_noteParts fk_over fk_overs fk_places fk_torn e0 e1 e2 e3 e4 cg e6 e7 e8 e9 e10 e11 e12 e13 e14 e15 e16 e17 e18 e19 e20 e21 e22 e23 e24 e25 e26 _ (hfd) (hk9) (hov)) (cwV 1 hbg (gd_V (fun _ h => h) wd_2827 wd_2828 wd_2829 wd_12 (gd_wm (fun _ h => h) wd_2830)) rfl rfl rfl (by decide +kernel) ⟨Nat.le_of_ble_eq_true rfl, Nat.le_of_ble_eq_true rfl⟩) (nPreV [0, 1, 2, 3, 4, 5, 6, 7, 8, 9, 10, 11, 12, 13, 14, 15, 16, 17, 18, 19, 20, 21, 22, 23, 24, 25, 26, 27, 28, 29, 30, 31, 32, 33, 34, 35, 36] hP hD hK hN hS hA (by decide) rfl 0 rfl rfl) rfl rfl hl.1 rfl (lv_room (Nat.le_of_ble_eq_true rfl)) dM_L_law_2995 ⟨Nat.le_of_ble_eq_true rfl, Nat.le_of_ble_eq_true rfl⟩) hS (fun q _ h => hFc q h) hFc (fun r_9 u t H1 locs ht hvm hw hB hz1 hk1 hS => ?_)
    rcases hw with ⟨c_10, rfl, rfl⟩ | ⟨c_11, rfl, rfl⟩
    · --
      obtain ⟨r0_12, r1_13, r2_14, r3_15, r4_16, r5_17, r6_18, r7_19, r8_20, r9_21, r10_22, r11_23, r12_24, r13_25, r14_26, r15_27, hP1, hD1⟩ := hB
      rw [ht] at hP1
      obtain ⟨hP, hD⟩ := va_join (wr := [(ou, .inl (dC 101, 1, .inr (.inl (vp_updL f0 (0 : Int32).toNatClampNeg 0))))]) (w1 := [(m0, .inr (10, [r0_12, r1_13, r2_14, r3_15, r4_16, r5_17, r6_18, r7_19, r8_20, r9_21, r10_22, r11_23, r12_24, r13_25, r14_26, r15_27, .int 0]))]) hP hD [0, 1, 2, 3, 4, 5, 6, 7, 8, 9, 10, 11, 12, 13, 14, 15, 16, 17, 18, 19, 20, 21, 22, 23, 24, 25, 26, 27, 28, 29, 30, 31, 32, 33, 34, 35, 36] [37] rfl rfl (by decide) (by decide) hk1 hFc hP1 hD1
      generalize H1 = H at hP hS ⊢
      have hP : va_P (dC, dI) classes [(ou, .inl (dC 101, 1, .inr (.inl (vp_updL f0 (0 : Int32).toNatClampNeg 0)))), (m0, .inr (10, [r0_12, r1_13, r2_14, r3_15, r4_16, r5_17, r6_18, r7_19, r8_20, r9_21, r10_22, r11_23, r12_24, r13_25, r14_26, r15_27, .int 0]))] H := hP
      have hD : va_D A [(ou, .inl (dC 101, 1, .inr (.inl (vp_updL f0 (0 : Int32).toNatClampNeg 0)))), (m0, .inr (10, [r0_12, r1_13, r2_14, r3_15, r4_16, r5_17, r6_18, r7_19, r8_20, r9_21, r10_22, r11_23, r12_24, r13_25, r14_26, r15_27, .int 0]))] := hD
      refine W.widen (k := 404) (n := 120035) (Nat.le_of_ble_eq_true rfl) (Nat.le_of_ble_eq_true rfl) ?_
      refine lv_istore (lv' := [(6, .int 0), (5, .int 0), (0, .ref b), (1, .ref h0), (2, .ref m0), (3, .ref ou), (4, .int 0)]) hx hb dM_L_law_2998 hl (by decide) rfl (fun ls hl => ?_)
      refine lv_aload_n hx hb dM_L_law_3000 rfl (lv_at hl 4 rfl) ?_
      have hFc := va_free (wc := [(m0, .inr (10, [r0_12, r1_13, r2_14, r3_15, r4_16, r5_17, r6_18, r7_19, r8_20, r9_21, r10_22, r11_23, r12_24, r13_25, r14_26, r15_27, .int 0]))]) hD hS hA [1] rfl
      refine va_calli (va_runV (As := []) (rest := []) ⟨hx, hb, hml, hown, hbg⟩ (c_M_thrown l dC dI m0 r0_12 r1_13 r2_14 r3_15 r4_16 r5_17 r6_18 r7_19 r8_20 r9_21 r10_22 r11_23 r12_24 r13_25 r14_26 r15_27 0 _ ) (cwV 0 hbg (gd_V (fun _ h => h) wd_2190 wd_2191 wd_2192 wd_12 (gd_wm (fun _ h => h) wd_2193)) rfl rfl rfl (by decide +kernel) ⟨Nat.le_of_ble_eq_true rfl, Nat.le_of_ble_eq_true rfl⟩) (nPreV [1] hP hD hK hN hS hA (by decide) rfl 1 rfl rfl) rfl rfl hl.1 rfl (lv_room (Nat.le_of_ble_eq_true rfl)) dM_L_law_3001 ⟨Nat.le_of_ble_eq_true rfl, Nat.le_of_ble_eq_true rfl⟩) hS (fun q _ h => hFc q h) hFc (fun r_28 u t H1 locs ht hvm hw hB hz1 hk1 hS => ?_)
      obtain ⟨rfl, rfl⟩ := hw
      obtain ⟨r0_30, r1_31, r2_32, r3_33, r4_34, r5_35, r6_36, r7_37, r8_38, r9_39, r10_40, r11_41, r12_42, r13_43, r14_44, r15_45, hP1, hD1⟩ := hB
      rw [ht] at hP1
      obtain ⟨hP, hD⟩ := va_join (wr := [(ou, .inl (dC 101, 1, .inr (.inl (vp_updL f0 (0 : Int32).toNatClampNeg 0))))]) (w1 := [(m0, .inr (10, [r0_30, r1_31, r2_32, r3_33, r4_34, r5_35, r6_36, r7_37, r8_38, r9_39, r10_40, r11_41, r12_42, r13_43, r14_44, r15_45, .int 0]))]) hP hD [1] [0] rfl rfl (by decide) (by decide) hk1 hFc hP1 hD1
      generalize H1 = H at hP hS ⊢
      have hP : va_P (dC, dI) classes [(ou, .inl (dC 101, 1, .inr (.inl (vp_updL f0 (0 : Int32).toNatClampNeg 0)))), (m0, .inr (10, [r0_30, r1_31, r2_32, r3_33, r4_34, r5_35, r6_36, r7_37, r8_38, r9_39, r10_40, r11_41, r12_42, r13_43, r14_44, r15_45, .int 0]))] H := hP
      have hD : va_D A [(ou, .inl (dC 101, 1, .inr (.inl (vp_updL f0 (0 : Int32).toNatClampNeg 0)))), (m0, .inr (10, [r0_30, r1_31, r2_32, r3_33, r4_34, r5_35, r6_36, r7_37, r8_38, r9_39, r10_40, r11_41, r12_42, r13_43, r14_44, r15_45, .int 0]))] := hD
      refine W.widen (k := 404) (n := 120035) (Nat.le_of_ble_eq_true rfl) (Nat.le_of_ble_eq_true rfl) ?_
      refine lv_iload hx hb dM_L_law_3004 (lv_at hl 1 rfl) ?_
      refine lv_icmp_eq (tgt := 3011) hx hb dM_L_law_3006 (by decide) (fun _ => ?_) (fun q => absurd (by decide) q)
      refine lv_iload hx hb dM_L_law_3011 (lv_at hl 1 rfl) ?_
      refine lv_if_ne (tgt := 3028) hx hb dM_L_law_3013 (by decide) (fun q => absurd (by decide) q) (fun _ => ?_)
      refine lv_aload_n hx hb dM_L_law_3016 rfl (lv_at hl 5 rfl) ?_
      refine lv_iconst (v := 0) hx hb dM_L_law_3017 (by decide) ?_
      refine va_lald hx hb hK.1 hP 0 1 rfl rfl (by unfold vp_in; decide) dM_L_law_3018 ?_
      rw [pk_uLs]
      refine lv_iload hx hb dM_L_law_3019 (lv_at hl 0 rfl) ?_
      refine lv_i2l (v := 0) hx hb dM_L_law_3021 (by decide) ?_
      refine W.lcmp hx hb dM_L_law_3022 ?_
      refine lv_topi (fun y_46 ey_46 => ?_)
      obtain rfl : y_46 = 0 := ey_46.trans (by decide)
      refine lv_if_eq (tgt := 3028) hx hb dM_L_law_3023 (by decide) (fun _ => ?_) (fun q => absurd (by decide) q)
      refine lv_goto (tgt := 3410) hx hb dM_L_law_3028 (by decide) ?_
      refine W.widen (k := 600002) (n := 7302232) (Nat.le_of_ble_eq_true rfl) (Nat.le_of_ble_eq_true rfl) ?_
      exact hend _ _ _ hS (lv_sub hl [6, 2] rfl)
    · --
      exact absurd c_4 c_11
  · --
    obtain rfl := hu_6.symm
    obtain ⟨hP1, hD1⟩ := hB
    rw [ht] at hP1
    obtain ⟨hP, hD⟩ := va_join (wr := [(m0, .inr (10, [.ref nw, .ref kq, .int 0, .int 0, z4, z5, z6, z7, z8, z9, z10, z11, z12, .ref en, z14, z15, z16])), (nw, .inr (12, [.ref b_rows, .ref b_columns, .int 0, .ref b_types, .ref b_numbers, .ref b_formulas, .ref b_held, .ref b_holds, .ref b_found, .ref b_names, .ref b_bodies, .int 0, .ref b_parts, .ref b_noteParts, .ref b_over, .ref b_overs, .long 0, .long 0, .int 0, .int 0, .ref b_places, .ref b_torn])), (b_rows, .inl (dC 100, 4, .inl f_rows)), (b_columns, .inl (dC 100, 4, .inl f_columns)), (b_types, .inl (dC 100, 200, .inl f_types)), (b_numbers, .inl (dC 101, 200, .inr (.inl f_numbers))), (b_formulas, .inl (dC 100, 200, .inl f_formulas)), (b_held, .inl (dC 102, 200, .inl f_held)), (b_holds, .inl (dC 101, 200, .inr (.inl f_holds))), (b_found, .inl (dC 105, 885, .inr (.inr (.inr (.inr f_found))))), (b_names, .inl (dC 100, 6, .inl f_names)), (b_bodies, .inl (dC 100, 4, .inl f_bodies)), (b_parts, .inl (dC 100, 3, .inl f_parts)), (b_noteParts, .inl (dC 100, 72, .inl f_noteParts)), (b_over, .inl (dC 102, 600, .inl f_over)), (b_overs, .inl (dC 101, 600, .inr (.inl f_overs))), (b_places, .inl (dC 100, 750, .inl f_places)), (b_torn, .inl (dC 102, 150, .inl f_torn)), (kq, .inl (dC 104, 5, .inr (.inr (.inr (.inr fq))))), (k9, .inr (12, [.ref bk_rows, .ref bk_columns, .int 0, .ref bk_types, .ref bk_numbers, .ref bk_formulas, .ref bk_held, .ref bk_holds, .ref bk_found, .ref bk_names, .ref bk_bodies, .int 0, .ref bk_parts, .ref bk_noteParts, .ref bk_over, .ref bk_overs, .long 0, .long 0, .int 0, .int 0, .ref bk_places, .ref bk_torn])), (bk_rows, .inl (dC 100, 4, .inl fk_rows)), (bk_columns, .inl (dC 100, 4, .inl fk_columns)), (bk_types, .inl (dC 100, 200, .inl fk_types)), (bk_numbers, .inl (dC 101, 200, .inr (.inl fk_numbers))), (bk_formulas, .inl (dC 100, 200, .inl fk_formulas)), (bk_held, .inl (dC 102, 200, .inl fk_held)), (bk_holds, .inl (dC 101, 200, .inr (.inl fk_holds))), (bk_found, .inl (dC 105, 885, .inr (.inr (.inr (.inr fk_found))))), (bk_names, .inl (dC 100, 6, .inl fk_names)), (bk_bodies, .inl (dC 100, 4, .inl fk_bodies)), (bk_parts, .inl (dC 100, 3, .inl fk_parts)), (bk_noteParts, .inl (dC 100, 72, .inl fk_noteParts)), (bk_over, .inl (dC 102, 600, .inl fk_over)), (bk_overs, .inl (dC 101, 600, .inr (.inl fk_overs))), (bk_places, .inl (dC 100, 750, .inl fk_places)), (bk_torn, .inl (dC 102, 150, .inl fk_torn)), (en, .inr (11, [e0, e1, e2, e3, e4, .int cg, e6, e7, e8, e9, e10, e11, e12, e13, e14, e15, e16, e17, e18, e19, e20, e21, e22, e23, e24, e25, e26]))]) (w1 := [(ou, .inl (dC 101, 1, .inr (.inl f0)))]) hP hD [0, 1, 2, 3, 4, 5, 6, 7, 8, 9, 10, 11, 12, 13, 14, 15, 16, 17, 18, 19, 20, 21, 22, 23, 24, 25, 26, 27, 28, 29, 30, 31, 32, 33] [34, 35, 36, 37, 38, 39, 40, 41, 42, 43, 44, 45, 46, 47, 48, 49, 50, 51, 52, 53, 54, 55, 56, 57, 58, 59, 60, 61, 62, 63, 64, 65, 66, 67, 68, 69, 70] rfl rfl (by decide) (by decide) hk1 hFc hP1 hD1
    generalize H1 = H at hP hS ⊢
    have hP : va_P (dC, dI) classes [(m0, .inr (10, [.ref nw, .ref kq, .int 0, .int 0, z4, z5, z6, z7, z8, z9, z10, z11, z12, .ref en, z14, z15, z16])), (nw, .inr (12, [.ref b_rows, .ref b_columns, .int 0, .ref b_types, .ref b_numbers, .ref b_formulas, .ref b_held, .ref b_holds, .ref b_found, .ref b_names, .ref b_bodies, .int 0, .ref b_parts, .ref b_noteParts, .ref b_over, .ref b_overs, .long 0, .long 0, .int 0, .int 0, .ref b_places, .ref b_torn])), (b_rows, .inl (dC 100, 4, .inl f_rows)), (b_columns, .inl (dC 100, 4, .inl f_columns)), (b_types, .inl (dC 100, 200, .inl f_types)), (b_numbers, .inl (dC 101, 200, .inr (.inl f_numbers))), (b_formulas, .inl (dC 100, 200, .inl f_formulas)), (b_held, .inl (dC 102, 200, .inl f_held)), (b_holds, .inl (dC 101, 200, .inr (.inl f_holds))), (b_found, .inl (dC 105, 885, .inr (.inr (.inr (.inr f_found))))), (b_names, .inl (dC 100, 6, .inl f_names)), (b_bodies, .inl (dC 100, 4, .inl f_bodies)), (b_parts, .inl (dC 100, 3, .inl f_parts)), (b_noteParts, .inl (dC 100, 72, .inl f_noteParts)), (b_over, .inl (dC 102, 600, .inl f_over)), (b_overs, .inl (dC 101, 600, .inr (.inl f_overs))), (b_places, .inl (dC 100, 750, .inl f_places)), (b_torn, .inl (dC 102, 150, .inl f_torn)), (kq, .inl (dC 104, 5, .inr (.inr (.inr (.inr fq))))), (k9, .inr (12, [.ref bk_rows, .ref bk_columns, .int 0, .ref bk_types, .ref bk_numbers, .ref bk_formulas, .ref bk_held, .ref bk_holds, .ref bk_found, .ref bk_names, .ref bk_bodies, .int 0, .ref bk_parts, .ref bk_noteParts, .ref bk_over, .ref bk_overs, .long 0, .long 0, .int 0, .int 0, .ref bk_places, .ref bk_torn])), (bk_rows, .inl (dC 100, 4, .inl fk_rows)), (bk_columns, .inl (dC 100, 4, .inl fk_columns)), (bk_types, .inl (dC 100, 200, .inl fk_types)), (bk_numbers, .inl (dC 101, 200, .inr (.inl fk_numbers))), (bk_formulas, .inl (dC 100, 200, .inl fk_formulas)), (bk_held, .inl (dC 102, 200, .inl fk_held)), (bk_holds, .inl (dC 101, 200, .inr (.inl fk_holds))), (bk_found, .inl (dC 105, 885, .inr (.inr (.inr (.inr fk_found))))), (bk_names, .inl (dC 100, 6, .inl fk_names)), (bk_bodies, .inl (dC 100, 4, .inl fk_bodies)), (bk_parts, .inl (dC 100, 3, .inl fk_parts)), (bk_noteParts, .inl (dC 100, 72, .inl fk_noteParts)), (bk_over, .inl (dC 102, 600, .inl fk_over)), (bk_overs, .inl (dC 101, 600, .inr (.inl fk_overs))), (bk_places, .inl (dC 100, 750, .inl fk_places)), (bk_torn, .inl (dC 102, 150, .inl fk_torn)), (en, .inr (11, [e0, e1, e2, e3, e4, .int cg, e6, e7, e8, e9, e10, e11, e12, e13, e14, e15, e16, e17, e18, e19, e20, e21, e22, e23, e24, e25, e26])), (ou, .inl (dC 101, 1, .inr (.inl f0)))] H := hP
    have hD : va_D A [(m0, .inr (10, [.ref nw, .ref kq, .int 0, .int 0, z4, z5, z6, z7, z8, z9, z10, z11, z12, .ref en, z14, z15, z16])), (nw, .inr (12, [.ref b_rows, .ref b_columns, .int 0, .ref b_types, .ref b_numbers, .ref b_formulas, .ref b_held, .ref b_holds, .ref b_found, .ref b_names, .ref b_bodies, .int 0, .ref b_parts, .ref b_noteParts, .ref b_over, .ref b_overs, .long 0, .long 0, .int 0, .int 0, .ref b_places, .ref b_torn])), (b_rows, .inl (dC 100, 4, .inl f_rows)), (b_columns, .inl (dC 100, 4, .inl f_columns)), (b_types, .inl (dC 100, 200, .inl f_types)), (b_numbers, .inl (dC 101, 200, .inr (.inl f_numbers))), (b_formulas, .inl (dC 100, 200, .inl f_formulas)), (b_held, .inl (dC 102, 200, .inl f_held)), (b_holds, .inl (dC 101, 200, .inr (.inl f_holds))), (b_found, .inl (dC 105, 885, .inr (.inr (.inr (.inr f_found))))), (b_names, .inl (dC 100, 6, .inl f_names)), (b_bodies, .inl (dC 100, 4, .inl f_bodies)), (b_parts, .inl (dC 100, 3, .inl f_parts)), (b_noteParts, .inl (dC 100, 72, .inl f_noteParts)), (b_over, .inl (dC 102, 600, .inl f_over)), (b_overs, .inl (dC 101, 600, .inr (.inl f_overs))), (b_places, .inl (dC 100, 750, .inl f_places)), (b_torn, .inl (dC 102, 150, .inl f_torn)), (kq, .inl (dC 104, 5, .inr (.inr (.inr (.inr fq))))), (k9, .inr (12, [.ref bk_rows, .ref bk_columns, .int 0, .ref bk_types, .ref bk_numbers, .ref bk_formulas, .ref bk_held, .ref bk_holds, .ref bk_found, .ref bk_names, .ref bk_bodies, .int 0, .ref bk_parts, .ref bk_noteParts, .ref bk_over, .ref bk_overs, .long 0, .long 0, .int 0, .int 0, .ref bk_places, .ref bk_torn])), (bk_rows, .inl (dC 100, 4, .inl fk_rows)), (bk_columns, .inl (dC 100, 4, .inl fk_columns)), (bk_types, .inl (dC 100, 200, .inl fk_types)), (bk_numbers, .inl (dC 101, 200, .inr (.inl fk_numbers))), (bk_formulas, .inl (dC 100, 200, .inl fk_formulas)), (bk_held, .inl (dC 102, 200, .inl fk_held)), (bk_holds, .inl (dC 101, 200, .inr (.inl fk_holds))), (bk_found, .inl (dC 105, 885, .inr (.inr (.inr (.inr fk_found))))), (bk_names, .inl (dC 100, 6, .inl fk_names)), (bk_bodies, .inl (dC 100, 4, .inl fk_bodies)), (bk_parts, .inl (dC 100, 3, .inl fk_parts)), (bk_noteParts, .inl (dC 100, 72, .inl fk_noteParts)), (bk_over, .inl (dC 102, 600, .inl fk_over)), (bk_overs, .inl (dC 101, 600, .inr (.inl fk_overs))), (bk_places, .inl (dC 100, 750, .inl fk_places)), (bk_torn, .inl (dC 102, 150, .inl fk_torn)), (en, .inr (11, [e0, e1, e2, e3, e4, .int cg, e6, e7, e8, e9, e10, e11, e12, e13, e14, e15, e16, e17, e18, e19, e20, e21, e22, e23, e24, e25, e26])), (ou, .inl (dC 101, 1, .inr (.inl f0)))] := hD
    refine W.widen (k := 404) (n := 120035) (Nat.le_of_ble_eq_true rfl) (Nat.le_of_ble_eq_true rfl) ?_
    refine lv_istore (lv' := [(5, .int 1), (0, .ref b), (1, .ref h0), (2, .ref m0), (3, .ref ou), (4, .int 0)]) hx hb dM_L_law_2986 hl (by decide) rfl (fun ls hl => ?_)
    refine lv_aload_n hx hb dM_L_law_2988 rfl (lv_at hl 3 rfl) ?_
    refine lv_aload_n hx hb dM_L_law_2989 rfl (lv_at hl 1 rfl) ?_
    refine lv_iload hx hb dM_L_law_2990 (lv_at hl 5 rfl) ?_
    refine lv_iconst (v := 1) hx hb dM_L_law_2992 (by decide) ?_
    refine lv_iadd hx hb dM_L_law_2993 ?_
    refine lv_topi (fun y_47 ey_47 => ?_)
    obtain rfl : y_47 = 1 := ey_47.trans (by decide)
    refine va_sld hx hb hX hbl hbA hS (by unfold vp_in; decide) dM_L_law_2994 ?_
    refine lv_topi (fun y_48 ey_48 => ?_)
    obtain rfl : y_2 = y_48 := ey_2.trans ey_48.symm
    have hFc := va_free (wc := [(m0, .inr (10, [.ref nw, .ref kq, .int 0, .int 0, z4, z5, z6, z7, z8, z9, z10, z11, z12, .ref en, z14, z15, z16])), (nw, .inr (12, [.ref b_rows, .ref b_columns, .int 0, .ref b_types, .ref b_numbers, .ref b_formulas, .ref b_held, .ref b_holds, .ref b_found, .ref b_names, .ref b_bodies, .int 0, .ref b_parts, .ref b_noteParts, .ref b_over, .ref b_overs, .long 0, .long 0, .int 0, .int 0, .ref b_places, .ref b_torn])), (b_rows, .inl (dC 100, 4, .inl f_rows)), (b_columns, .inl (dC 100, 4, .inl f_columns)), (b_types, .inl (dC 100, 200, .inl f_types)), (b_numbers, .inl (dC 101, 200, .inr (.inl f_numbers))), (b_formulas, .inl (dC 100, 200, .inl f_formulas)), (b_held, .inl (dC 102, 200, .inl f_held)), (b_holds, .inl (dC 101, 200, .inr (.inl f_holds))), (b_found, .inl (dC 105, 885, .inr (.inr (.inr (.inr f_found))))), (b_names, .inl (dC 100, 6, .inl f_names)), (b_bodies, .inl (dC 100, 4, .inl f_bodies)), (b_parts, .inl (dC 100, 3, .inl f_parts)), (b_noteParts, .inl (dC 100, 72, .inl f_noteParts)), (b_over, .inl (dC 102, 600, .inl f_over)), (b_overs, .inl (dC 101, 600, .inr (.inl f_overs))), (b_places, .inl (dC 100, 750, .inl f_places)), (b_torn, .inl (dC 102, 150, .inl f_torn)), (kq, .inl (dC 104, 5, .inr (.inr (.inr (.inr fq))))), (k9, .inr (12, [.ref bk_rows, .ref bk_columns, .int 0, .ref bk_types, .ref bk_numbers, .ref bk_formulas, .ref bk_held, .ref bk_holds, .ref bk_found, .ref bk_names, .ref bk_bodies, .int 0, .ref bk_parts, .ref bk_noteParts, .ref bk_over, .ref bk_overs, .long 0, .long 0, .int 0, .int 0, .ref bk_places, .ref bk_torn])), (bk_rows, .inl (dC 100, 4, .inl fk_rows)), (bk_columns, .inl (dC 100, 4, .inl fk_columns)), (bk_types, .inl (dC 100, 200, .inl fk_types)), (bk_numbers, .inl (dC 101, 200, .inr (.inl fk_numbers))), (bk_formulas, .inl (dC 100, 200, .inl fk_formulas)), (bk_held, .inl (dC 102, 200, .inl fk_held)), (bk_holds, .inl (dC 101, 200, .inr (.inl fk_holds))), (bk_found, .inl (dC 105, 885, .inr (.inr (.inr (.inr fk_found))))), (bk_names, .inl (dC 100, 6, .inl fk_names)), (bk_bodies, .inl (dC 100, 4, .inl fk_bodies)), (bk_parts, .inl (dC 100, 3, .inl fk_parts)), (bk_noteParts, .inl (dC 100, 72, .inl fk_noteParts)), (bk_over, .inl (dC 102, 600, .inl fk_over)), (bk_overs, .inl (dC 101, 600, .inr (.inl fk_overs))), (bk_places, .inl (dC 100, 750, .inl fk_places)), (bk_torn, .inl (dC 102, 150, .inl fk_torn)), (en, .inr (11, [e0, e1, e2, e3, e4, .int cg, e6, e7, e8, e9, e10, e11, e12, e13, e14, e15, e16, e17, e18, e19, e20, e21, e22, e23, e24, e25, e26]))]) hD hS hA [0, 1, 2, 3, 4, 5, 6, 7, 8, 9, 10, 11, 12, 13, 14, 15, 16, 17, 18, 19, 20, 21, 22, 23, 24, 25, 26, 27, 28, 29, 30, 31, 32, 33, 34, 35, 36] rfl
    refine va_calli (va_runV (As := [.int y_2]) (rest := []) ⟨hx, hb, hml, hown, hbg⟩ (c_M_drop l dC dI m0 y_2 nw kq z4 z5 z6 z7 z8 z9 z10 z11 z12 en z14 z15 z16 b_rows b_columns b_types b_numbers b_formulas b_held b_holds b_found b_names b_bodies b_parts b_noteParts b_over b_overs b_places b_torn f_rows f_columns f_types f_numbers f_formulas f_held f_holds f_found f_names f_bodies f_parts f_noteParts f_over f_overs f_places f_torn fq k9 bk_rows bk_columns bk_types bk_numbers bk_formulas bk_held bk_holds bk_found bk_names bk_bodies bk_parts bk_noteParts bk_over bk_overs bk_places bk_torn fk_rows fk_columns fk_types fk_numbers fk_formulas fk_held fk_holds fk_found fk_names fk_bodies fk_parts fk_noteParts fk_over fk_overs fk_places fk_torn e0 e1 e2 e3 e4 cg e6 e7 e8 e9 e10 e11 e12 e13 e14 e15 e16 e17 e18 e19 e20 e21 e22 e23 e24 e25 e26 _ (hfd) (hk9) (hov)) (cwV 1 hbg (gd_V (fun _ h => h) wd_2827 wd_2828 wd_2829 wd_12 (gd_wm (fun _ h => h) wd_2830)) rfl rfl rfl (by decide +kernel) ⟨Nat.le_of_ble_eq_true rfl, Nat.le_of_ble_eq_true rfl⟩) (nPreV [0, 1, 2, 3, 4, 5, 6, 7, 8, 9, 10, 11, 12, 13, 14, 15, 16, 17, 18, 19, 20, 21, 22, 23, 24, 25, 26, 27, 28, 29, 30, 31, 32, 33, 34, 35, 36] hP hD hK hN hS hA (by decide) rfl 0 rfl rfl) rfl rfl hl.1 rfl (lv_room (Nat.le_of_ble_eq_true rfl)) dM_L_law_2995 ⟨Nat.le_of_ble_eq_true rfl, Nat.le_of_ble_eq_true rfl⟩) hS (fun q _ h => hFc q h) hFc (fun r_49 u t H1 locs ht hvm hw hB hz1 hk1 hS => ?_)
    rcases hw with ⟨c_50, rfl, rfl⟩ | ⟨c_51, rfl, rfl⟩
    · --
      exact absurd c_50 c_5
    · --
      obtain ⟨r0_52, r1_53, r2_54, r3_55, r4_56, r5_57, r6_58, r7_59, r8_60, r9_61, r10_62, r11_63, r12_64, r13_65, r14_66, r15_67, hP1, hD1⟩ := hB
      rw [ht] at hP1
      obtain ⟨hP, hD⟩ := va_join (wr := [(ou, .inl (dC 101, 1, .inr (.inl f0)))]) (w1 := [(m0, .inr (10, [r0_52, r1_53, r2_54, r3_55, r4_56, r5_57, r6_58, r7_59, r8_60, r9_61, r10_62, r11_63, r12_64, r13_65, r14_66, r15_67, .int 1]))]) hP hD [0, 1, 2, 3, 4, 5, 6, 7, 8, 9, 10, 11, 12, 13, 14, 15, 16, 17, 18, 19, 20, 21, 22, 23, 24, 25, 26, 27, 28, 29, 30, 31, 32, 33, 34, 35, 36] [37] rfl rfl (by decide) (by decide) hk1 hFc hP1 hD1
      generalize H1 = H at hP hS ⊢
      have hP : va_P (dC, dI) classes [(ou, .inl (dC 101, 1, .inr (.inl f0))), (m0, .inr (10, [r0_52, r1_53, r2_54, r3_55, r4_56, r5_57, r6_58, r7_59, r8_60, r9_61, r10_62, r11_63, r12_64, r13_65, r14_66, r15_67, .int 1]))] H := hP
      have hD : va_D A [(ou, .inl (dC 101, 1, .inr (.inl f0))), (m0, .inr (10, [r0_52, r1_53, r2_54, r3_55, r4_56, r5_57, r6_58, r7_59, r8_60, r9_61, r10_62, r11_63, r12_64, r13_65, r14_66, r15_67, .int 1]))] := hD
      refine W.widen (k := 404) (n := 120035) (Nat.le_of_ble_eq_true rfl) (Nat.le_of_ble_eq_true rfl) ?_
      refine lv_istore (lv' := [(6, .int 0), (5, .int 1), (0, .ref b), (1, .ref h0), (2, .ref m0), (3, .ref ou), (4, .int 0)]) hx hb dM_L_law_2998 hl (by decide) rfl (fun ls hl => ?_)
      refine lv_aload_n hx hb dM_L_law_3000 rfl (lv_at hl 4 rfl) ?_
      have hFc := va_free (wc := [(m0, .inr (10, [r0_52, r1_53, r2_54, r3_55, r4_56, r5_57, r6_58, r7_59, r8_60, r9_61, r10_62, r11_63, r12_64, r13_65, r14_66, r15_67, .int 1]))]) hD hS hA [1] rfl
      refine va_calli (va_runV (As := []) (rest := []) ⟨hx, hb, hml, hown, hbg⟩ (c_M_thrown l dC dI m0 r0_52 r1_53 r2_54 r3_55 r4_56 r5_57 r6_58 r7_59 r8_60 r9_61 r10_62 r11_63 r12_64 r13_65 r14_66 r15_67 1 _ ) (cwV 0 hbg (gd_V (fun _ h => h) wd_2190 wd_2191 wd_2192 wd_12 (gd_wm (fun _ h => h) wd_2193)) rfl rfl rfl (by decide +kernel) ⟨Nat.le_of_ble_eq_true rfl, Nat.le_of_ble_eq_true rfl⟩) (nPreV [1] hP hD hK hN hS hA (by decide) rfl 1 rfl rfl) rfl rfl hl.1 rfl (lv_room (Nat.le_of_ble_eq_true rfl)) dM_L_law_3001 ⟨Nat.le_of_ble_eq_true rfl, Nat.le_of_ble_eq_true rfl⟩) hS (fun q _ h => hFc q h) hFc (fun r_68 u t H1 locs ht hvm hw hB hz1 hk1 hS => ?_)
      obtain ⟨rfl, rfl⟩ := hw
      obtain ⟨r0_70, r1_71, r2_72, r3_73, r4_74, r5_75, r6_76, r7_77, r8_78, r9_79, r10_80, r11_81, r12_82, r13_83, r14_84, r15_85, hP1, hD1⟩ := hB
      rw [ht] at hP1
      obtain ⟨hP, hD⟩ := va_join (wr := [(ou, .inl (dC 101, 1, .inr (.inl f0)))]) (w1 := [(m0, .inr (10, [r0_70, r1_71, r2_72, r3_73, r4_74, r5_75, r6_76, r7_77, r8_78, r9_79, r10_80, r11_81, r12_82, r13_83, r14_84, r15_85, .int 1]))]) hP hD [1] [0] rfl rfl (by decide) (by decide) hk1 hFc hP1 hD1
      generalize H1 = H at hP hS ⊢
      have hP : va_P (dC, dI) classes [(ou, .inl (dC 101, 1, .inr (.inl f0))), (m0, .inr (10, [r0_70, r1_71, r2_72, r3_73, r4_74, r5_75, r6_76, r7_77, r8_78, r9_79, r10_80, r11_81, r12_82, r13_83, r14_84, r15_85, .int 1]))] H := hP
      have hD : va_D A [(ou, .inl (dC 101, 1, .inr (.inl f0))), (m0, .inr (10, [r0_70, r1_71, r2_72, r3_73, r4_74, r5_75, r6_76, r7_77, r8_78, r9_79, r10_80, r11_81, r12_82, r13_83, r14_84, r15_85, .int 1]))] := hD
      refine W.widen (k := 404) (n := 120035) (Nat.le_of_ble_eq_true rfl) (Nat.le_of_ble_eq_true rfl) ?_
      refine lv_iload hx hb dM_L_law_3004 (lv_at hl 1 rfl) ?_
      refine lv_icmp_eq (tgt := 3011) hx hb dM_L_law_3006 (by decide) (fun _ => ?_) (fun q => absurd (by decide) q)
      refine lv_iload hx hb dM_L_law_3011 (lv_at hl 1 rfl) ?_
      refine lv_if_ne (tgt := 3028) hx hb dM_L_law_3013 (by decide) (fun _ => ?_) (fun q => absurd q (by decide))
      refine lv_goto (tgt := 3410) hx hb dM_L_law_3028 (by decide) ?_
      refine W.widen (k := 600002) (n := 7302232) (Nat.le_of_ble_eq_true rfl) (Nat.le_of_ble_eq_true rfl) ?_
      exact hend _ _ _ hS (lv_sub hl [6, 2] rfl)
set_option maxHeartbeats 4000000 in
set_option maxRecDepth 100000 in
theorem lawc_39 {p : Program} {e : Env} {s : State} {m : MethodId} {below : List Frame} {meth : Method} {c : Code} {Z : State → Prop} (l : Launch) (hl9 : l.stackTraces = false) (dC : Nat → ClassId) (dI : Nat → Nat → Nat) {A : Nat → Prop} {b L : Nat} {xs : Nat → Int32} (hL : L = 8) (hx : p.tables.exec = Jvm.exec) (hb : c.code = cM_L_law) (hml : c.maxLocals = 8) (hown : s.vm.findClass "NoteDocumentLaw" = some m.cls) (hbg : ∀ w ∈ BIG, w.before #[Value.ref b] s = true) (hK : nK (dC, dI) s) (hN : nS A s s.heap) (hA : ∀ q : Nat, s.heap.size ≤ q → A q) (hX : va_X b L xs s s.heap) (hbl : b < s.heap.size) (hbA : ¬ A b) {H : Heap} {locs : List Loc} {ls : Array Slot} {h0 : Nat} {m0 : Nat} {ou : Nat} {st : Nat} {v1 : Value} {v2 : Value} {v3 : Value} {v4 : Value} {v5 : Value} {v6 : Value} {v7 : Value} {v8 : Value} {v9 : Value} {v10 : Value} {w3 : Value} {w4 : Value} {w5 : Value} {w6 : Value} {w7 : Value} {w8 : Value} {w9 : Value} {w10 : Value} {w11 : Value} {w12 : Value} {w13 : Value} {w14 : Value} {w15 : Value} {w16 : Value} {w17 : Value} {w18 : Value} {w19 : Value} {f0 : Nat → Int64} {nw : Nat} {z1 : Value} {z2 : Value} {z3 : Value} {z4 : Value} {z5 : Value} {z6 : Value} {z7 : Value} {z8 : Value} {z9 : Value} {z10 : Value} {z11 : Value} {z12 : Value} {z13 : Value} {z14 : Value} {z15 : Value} {z16 : Value} {t0 : Value} {t1 : Value} {t3 : Value} {t4 : Value} {t5 : Value} {t6 : Value} {t7 : Value} {t8 : Value} {t9 : Value} {t10 : Value} {t12 : Value} {t13 : Value} {t14 : Value} {t15 : Value} {t16 : Value} {t17 : Value} {t18 : Value} {t20 : Value} {t21 : Value} (hP : va_P (dC, dI) classes [(h0, .inr (0, [.ref st, v1, v2, v3, v4, v5, v6, v7, v8, v9, v10])), (st, .inr (8, [.int 0, .int 0, .int 0, w3, w4, w5, w6, w7, w8, w9, w10, w11, w12, w13, w14, w15, w16, w17, w18, w19])), (ou, .inl (dC 101, 1, .inr (.inl f0))), (m0, .inr (10, [.ref nw, z1, z2, z3, z4, z5, z6, z7, z8, z9, z10, z11, z12, z13, z14, z15, z16])), (nw, .inr (12, [t0, t1, .int 0, t3, t4, t5, t6, t7, t8, t9, t10, .int 0, t12, t13, t14, t15, t16, t17, t18, .int 0, t20, t21]))] H) (hD : va_D A [(h0, .inr (0, [.ref st, v1, v2, v3, v4, v5, v6, v7, v8, v9, v10])), (st, .inr (8, [.int 0, .int 0, .int 0, w3, w4, w5, w6, w7, w8, w9, w10, w11, w12, w13, w14, w15, w16, w17, w18, w19])), (ou, .inl (dC 101, 1, .inr (.inl f0))), (m0, .inr (10, [.ref nw, z1, z2, z3, z4, z5, z6, z7, z8, z9, z10, z11, z12, z13, z14, z15, z16])), (nw, .inr (12, [t0, t1, .int 0, t3, t4, t5, t6, t7, t8, t9, t10, .int 0, t12, t13, t14, t15, t16, t17, t18, .int 0, t20, t21]))]) (hS : va_S A s.heap H locs) (hl : lv_has ls 8 [(0, .ref b), (1, .ref h0), (2, .ref m0), (3, .ref ou), (4, .int 0)]) (hend : ∀ (H : Heap) (locs : List Loc) (ls : Array Slot), va_S A s.heap H locs → lv_has ls 8 [(4, .int 0), (0, .ref b)] → W p l e room_1 s m #[Value.ref b] below meth c H locs 600002 7302232 Z (F0 m 3410 ls [])) : W p l e room_1 s m #[Value.ref b] below meth c H locs 403 120029 Z (F0 m 3031 ls []) := by
  subst hL
  refine lv_aload_n hx hb dM_L_law_3031 rfl (lv_at hl 1 rfl) ?_
  refine lv_aload_n hx hb dM_L_law_3032 rfl (lv_at hl 0 rfl) ?_
  refine lv_iload hx hb dM_L_law_3033 (lv_at hl 4 rfl) ?_
  refine lv_iconst (v := 1) hx hb dM_L_law_3035 (by decide) ?_
  refine lv_iadd hx hb dM_L_law_3036 ?_
  refine lv_topi (fun y_1 ey_1 => ?_)
  obtain rfl : y_1 = 1 := ey_1.trans (by decide)
  refine va_sld hx hb hX hbl hbA hS (by unfold vp_in; decide) dM_L_law_3037 ?_
  refine lv_topi (fun y_2 ey_2 => ?_)
  refine lv_aload_n hx hb dM_L_law_3038 rfl (lv_at hl 0 rfl) ?_
  refine lv_iload hx hb dM_L_law_3039 (lv_at hl 4 rfl) ?_
  refine lv_iconst (v := 2) hx hb dM_L_law_3041 (by decide) ?_
  refine lv_iadd hx hb dM_L_law_3042 ?_
  refine lv_topi (fun y_3 ey_3 => ?_)
  obtain rfl : y_3 = 2 := ey_3.trans (by decide)
  refine va_sld hx hb hX hbl hbA hS (by unfold vp_in; decide) dM_L_law_3043 ?_
  refine lv_topi (fun y_4 ey_4 => ?_)
  refine lv_aload_n hx hb dM_L_law_3044 rfl (lv_at hl 0 rfl) ?_
  refine lv_iload hx hb dM_L_law_3045 (lv_at hl 4 rfl) ?_
  refine lv_iconst (v := 3) hx hb dM_L_law_3047 (by decide) ?_
  refine lv_iadd hx hb dM_L_law_3048 ?_
  refine lv_topi (fun y_5 ey_5 => ?_)
  obtain rfl : y_5 = 3 := ey_5.trans (by decide)
  refine va_sld hx hb hX hbl hbA hS (by unfold vp_in; decide) dM_L_law_3049 ?_
  refine lv_topi (fun y_6 ey_6 => ?_)
  refine lv_aload_n hx hb dM_L_law_3050 rfl (lv_at hl 0 rfl) ?_
  refine lv_iload hx hb dM_L_law_3051 (lv_at hl 4 rfl) ?_
  refine lv_iconst (v := 4) hx hb dM_L_law_3053 (by decide) ?_
  refine lv_iadd hx hb dM_L_law_3054 ?_
  refine lv_topi (fun y_7 ey_7 => ?_)
  obtain rfl : y_7 = 4 := ey_7.trans (by decide)
  refine va_sld hx hb hX hbl hbA hS (by unfold vp_in; decide) dM_L_law_3055 ?_
  refine lv_topi (fun y_8 ey_8 => ?_)
  refine lv_aload_n hx hb dM_L_law_3056 rfl (lv_at hl 3 rfl) ?_
  have hFc := va_free (wc := [(h0, .inr (0, [.ref st, v1, v2, v3, v4, v5, v6, v7, v8, v9, v10])), (st, .inr (8, [.int 0, .int 0, .int 0, w3, w4, w5, w6, w7, w8, w9, w10, w11, w12, w13, w14, w15, w16, w17, w18, w19])), (ou, .inl (dC 101, 1, .inr (.inl f0)))]) hD hS hA [0, 1, 2] rfl
  refine va_calli (vx_runSW (As := [.ref h0, .int y_2, .int y_4, .int y_6, .int y_8, .ref ou]) (rest := []) ⟨hx, hb, hml, hown, hbg⟩ (c_L_kindIn l hl9 dC dI h0 y_2 y_4 y_6 y_8 ou st v1 v2 v3 v4 v5 v6 v7 v8 v9 v10 w3 w4 w5 w6 w7 w8 w9 w10 w11 w12 w13 w14 w15 w16 w17 w18 w19 f0 _ ) (vx_cwSW 6 hbg (gd_S (fun _ h => h) wd_1879 wd_1880 wd_0 (gd_wmW (fun _ h => h) wd_1881)) rfl rfl rfl (by decide +kernel) ⟨Nat.le_of_ble_eq_true rfl, Nat.le_of_ble_eq_true rfl⟩) (nPreS [0, 1, 2] hP hD hK hN hS hA (by decide) rfl) rfl rfl hl.1 rfl (lv_room (Nat.le_of_ble_eq_true rfl)) dM_L_law_3057 ⟨Nat.le_of_ble_eq_true rfl, Nat.le_of_ble_eq_true rfl⟩) hS (fun q _ h => hFc q h) hFc (fun r_9 u t H1 locs ht hvm hw hB hz1 hk1 hS => ?_)
  rcases hw with ⟨c_10, rfl, hu_11⟩ | ⟨c_12, rfl, hu_13⟩
  · --
    obtain rfl := hu_11.symm
    obtain ⟨hP1, hD1⟩ := hB
    rw [ht] at hP1
    obtain ⟨hP, hD⟩ := va_join (wr := [(m0, .inr (10, [.ref nw, z1, z2, z3, z4, z5, z6, z7, z8, z9, z10, z11, z12, z13, z14, z15, z16])), (nw, .inr (12, [t0, t1, .int 0, t3, t4, t5, t6, t7, t8, t9, t10, .int 0, t12, t13, t14, t15, t16, t17, t18, .int 0, t20, t21]))]) (w1 := [(ou, .inl (dC 101, 1, .inr (.inl f0)))]) hP hD [0, 1, 2] [3, 4] rfl rfl (by decide) (by decide) hk1 hFc hP1 hD1
    generalize H1 = H at hP hS ⊢
    have hP : va_P (dC, dI) classes [(m0, .inr (10, [.ref nw, z1, z2, z3, z4, z5, z6, z7, z8, z9, z10, z11, z12, z13, z14, z15, z16])), (nw, .inr (12, [t0, t1, .int 0, t3, t4, t5, t6, t7, t8, t9, t10, .int 0, t12, t13, t14, t15, t16, t17, t18, .int 0, t20, t21])), (ou, .inl (dC 101, 1, .inr (.inl f0)))] H := hP
    have hD : va_D A [(m0, .inr (10, [.ref nw, z1, z2, z3, z4, z5, z6, z7, z8, z9, z10, z11, z12, z13, z14, z15, z16])), (nw, .inr (12, [t0, t1, .int 0, t3, t4, t5, t6, t7, t8, t9, t10, .int 0, t12, t13, t14, t15, t16, t17, t18, .int 0, t20, t21])), (ou, .inl (dC 101, 1, .inr (.inl f0)))] := hD
    refine W.widen (k := 405) (n := 120041) (Nat.le_of_ble_eq_true rfl) (Nat.le_of_ble_eq_true rfl) ?_
    refine lv_istore (lv' := [(5, .int 1), (0, .ref b), (1, .ref h0), (2, .ref m0), (3, .ref ou), (4, .int 0)]) hx hb dM_L_law_3060 hl (by decide) rfl (fun ls hl => ?_)
    refine lv_aload_n hx hb dM_L_law_3062 rfl (lv_at hl 3 rfl) ?_
    refine lv_aload_n hx hb dM_L_law_3063 rfl (lv_at hl 1 rfl) ?_
    refine lv_iload hx hb dM_L_law_3064 (lv_at hl 5 rfl) ?_
    refine lv_iconst (v := 1) hx hb dM_L_law_3066 (by decide) ?_
    refine lv_iadd hx hb dM_L_law_3067 ?_
    refine lv_topi (fun y_14 ey_14 => ?_)
    obtain rfl : y_14 = 1 := ey_14.trans (by decide)
    refine va_sld hx hb hX hbl hbA hS (by unfold vp_in; decide) dM_L_law_3068 ?_
    refine lv_topi (fun y_15 ey_15 => ?_)
    obtain rfl : y_2 = y_15 := ey_2.trans ey_15.symm
    refine lv_aload_n hx hb dM_L_law_3069 rfl (lv_at hl 1 rfl) ?_
    refine lv_iload hx hb dM_L_law_3070 (lv_at hl 5 rfl) ?_
    refine lv_iconst (v := 2) hx hb dM_L_law_3072 (by decide) ?_
    refine lv_iadd hx hb dM_L_law_3073 ?_
    refine lv_topi (fun y_16 ey_16 => ?_)
    obtain rfl : y_16 = 2 := ey_16.trans (by decide)
    refine va_sld hx hb hX hbl hbA hS (by unfold vp_in; decide) dM_L_law_3074 ?_
    refine lv_topi (fun y_17 ey_17 => ?_)
    obtain rfl : y_4 = y_17 := ey_4.trans ey_17.symm
    refine lv_aload_n hx hb dM_L_law_3075 rfl (lv_at hl 1 rfl) ?_
    refine lv_iload hx hb dM_L_law_3076 (lv_at hl 5 rfl) ?_
    refine lv_iconst (v := 3) hx hb dM_L_law_3078 (by decide) ?_
    refine lv_iadd hx hb dM_L_law_3079 ?_
    refine lv_topi (fun y_18 ey_18 => ?_)
    obtain rfl : y_18 = 3 := ey_18.trans (by decide)
    refine va_sld hx hb hX hbl hbA hS (by unfold vp_in; decide) dM_L_law_3080 ?_
    refine lv_topi (fun y_19 ey_19 => ?_)
    obtain rfl : y_6 = y_19 := ey_6.trans ey_19.symm
    refine lv_aload_n hx hb dM_L_law_3081 rfl (lv_at hl 1 rfl) ?_
    refine lv_iload hx hb dM_L_law_3082 (lv_at hl 5 rfl) ?_
    refine lv_iconst (v := 4) hx hb dM_L_law_3084 (by decide) ?_
    refine lv_iadd hx hb dM_L_law_3085 ?_
    refine lv_topi (fun y_20 ey_20 => ?_)
    obtain rfl : y_20 = 4 := ey_20.trans (by decide)
    refine va_sld hx hb hX hbl hbA hS (by unfold vp_in; decide) dM_L_law_3086 ?_
    refine lv_topi (fun y_21 ey_21 => ?_)
    obtain rfl : y_8 = y_21 := ey_8.trans ey_21.symm
    have hFc := va_free (wc := [(m0, .inr (10, [.ref nw, z1, z2, z3, z4, z5, z6, z7, z8, z9, z10, z11, z12, z13, z14, z15, z16])), (nw, .inr (12, [t0, t1, .int 0, t3, t4, t5, t6, t7, t8, t9, t10, .int 0, t12, t13, t14, t15, t16, t17, t18, .int 0, t20, t21]))]) hD hS hA [0, 1] rfl
    refine va_calli (va_runV (As := [.int y_2, .int y_4, .int y_6, .int y_8]) (rest := []) ⟨hx, hb, hml, hown, hbg⟩ (c_M_kindIn l dC dI m0 y_2 y_4 y_6 y_8 nw z1 z2 z3 z4 z5 z6 z7 z8 z9 z10 z11 z12 z13 z14 z15 z16 t0 t1 t3 t4 t5 t6 t7 t8 t9 t10 t12 t13 t14 t15 t16 t17 t18 t20 t21 _ ) (cwV 4 hbg (gd_V (fun _ h => h) wd_2831 wd_2832 wd_2833 wd_12 (gd_wm (fun _ h => h) wd_2834)) rfl rfl rfl (by decide +kernel) ⟨Nat.le_of_ble_eq_true rfl, Nat.le_of_ble_eq_true rfl⟩) (nPreV [0, 1] hP hD hK hN hS hA (by decide) rfl 0 rfl rfl) rfl rfl hl.1 rfl (lv_room (Nat.le_of_ble_eq_true rfl)) dM_L_law_3087 ⟨Nat.le_of_ble_eq_true rfl, Nat.le_of_ble_eq_true rfl⟩) hS (fun q _ h => hFc q h) hFc (fun r_22 u t H1 locs ht hvm hw hB hz1 hk1 hS => ?_)
    rcases hw with ⟨c_23, rfl, rfl⟩ | ⟨c_24, rfl, rfl⟩
    · --
      exact absurd c_23 c_10
    · --
      obtain ⟨r0_25, r1_26, r2_27, r3_28, r4_29, r5_30, r6_31, r7_32, r8_33, r9_34, r10_35, r11_36, r12_37, r13_38, r14_39, r15_40, hP1, hD1⟩ := hB
      rw [ht] at hP1
      obtain ⟨hP, hD⟩ := va_join (wr := [(ou, .inl (dC 101, 1, .inr (.inl f0)))]) (w1 := [(m0, .inr (10, [r0_25, r1_26, r2_27, r3_28, r4_29, r5_30, r6_31, r7_32, r8_33, r9_34, r10_35, r11_36, r12_37, r13_38, r14_39, r15_40, .int 1]))]) hP hD [0, 1] [2] rfl rfl (by decide) (by decide) hk1 hFc hP1 hD1
      generalize H1 = H at hP hS ⊢
      have hP : va_P (dC, dI) classes [(ou, .inl (dC 101, 1, .inr (.inl f0))), (m0, .inr (10, [r0_25, r1_26, r2_27, r3_28, r4_29, r5_30, r6_31, r7_32, r8_33, r9_34, r10_35, r11_36, r12_37, r13_38, r14_39, r15_40, .int 1]))] H := hP
      have hD : va_D A [(ou, .inl (dC 101, 1, .inr (.inl f0))), (m0, .inr (10, [r0_25, r1_26, r2_27, r3_28, r4_29, r5_30, r6_31, r7_32, r8_33, r9_34, r10_35, r11_36, r12_37, r13_38, r14_39, r15_40, .int 1]))] := hD
      refine W.widen (k := 405) (n := 120041) (Nat.le_of_ble_eq_true rfl) (Nat.le_of_ble_eq_true rfl) ?_
      refine lv_istore (lv' := [(6, .int 0), (5, .int 1), (0, .ref b), (1, .ref h0), (2, .ref m0), (3, .ref ou), (4, .int 0)]) hx hb dM_L_law_3090 hl (by decide) rfl (fun ls hl => ?_)
      refine lv_aload_n hx hb dM_L_law_3092 rfl (lv_at hl 4 rfl) ?_
      have hFc := va_free (wc := [(m0, .inr (10, [r0_25, r1_26, r2_27, r3_28, r4_29, r5_30, r6_31, r7_32, r8_33, r9_34, r10_35, r11_36, r12_37, r13_38, r14_39, r15_40, .int 1]))]) hD hS hA [1] rfl
      refine va_calli (va_runV (As := []) (rest := []) ⟨hx, hb, hml, hown, hbg⟩ (c_M_thrown l dC dI m0 r0_25 r1_26 r2_27 r3_28 r4_29 r5_30 r6_31 r7_32 r8_33 r9_34 r10_35 r11_36 r12_37 r13_38 r14_39 r15_40 1 _ ) (cwV 0 hbg (gd_V (fun _ h => h) wd_2190 wd_2191 wd_2192 wd_12 (gd_wm (fun _ h => h) wd_2193)) rfl rfl rfl (by decide +kernel) ⟨Nat.le_of_ble_eq_true rfl, Nat.le_of_ble_eq_true rfl⟩) (nPreV [1] hP hD hK hN hS hA (by decide) rfl 1 rfl rfl) rfl rfl hl.1 rfl (lv_room (Nat.le_of_ble_eq_true rfl)) dM_L_law_3093 ⟨Nat.le_of_ble_eq_true rfl, Nat.le_of_ble_eq_true rfl⟩) hS (fun q _ h => hFc q h) hFc (fun r_41 u t H1 locs ht hvm hw hB hz1 hk1 hS => ?_)
      obtain ⟨rfl, rfl⟩ := hw
      obtain ⟨r0_43, r1_44, r2_45, r3_46, r4_47, r5_48, r6_49, r7_50, r8_51, r9_52, r10_53, r11_54, r12_55, r13_56, r14_57, r15_58, hP1, hD1⟩ := hB
      rw [ht] at hP1
      obtain ⟨hP, hD⟩ := va_join (wr := [(ou, .inl (dC 101, 1, .inr (.inl f0)))]) (w1 := [(m0, .inr (10, [r0_43, r1_44, r2_45, r3_46, r4_47, r5_48, r6_49, r7_50, r8_51, r9_52, r10_53, r11_54, r12_55, r13_56, r14_57, r15_58, .int 1]))]) hP hD [1] [0] rfl rfl (by decide) (by decide) hk1 hFc hP1 hD1
      generalize H1 = H at hP hS ⊢
      have hP : va_P (dC, dI) classes [(ou, .inl (dC 101, 1, .inr (.inl f0))), (m0, .inr (10, [r0_43, r1_44, r2_45, r3_46, r4_47, r5_48, r6_49, r7_50, r8_51, r9_52, r10_53, r11_54, r12_55, r13_56, r14_57, r15_58, .int 1]))] H := hP
      have hD : va_D A [(ou, .inl (dC 101, 1, .inr (.inl f0))), (m0, .inr (10, [r0_43, r1_44, r2_45, r3_46, r4_47, r5_48, r6_49, r7_50, r8_51, r9_52, r10_53, r11_54, r12_55, r13_56, r14_57, r15_58, .int 1]))] := hD
      refine W.widen (k := 405) (n := 120041) (Nat.le_of_ble_eq_true rfl) (Nat.le_of_ble_eq_true rfl) ?_
      refine lv_iload hx hb dM_L_law_3096 (lv_at hl 1 rfl) ?_
      refine lv_icmp_eq (tgt := 3103) hx hb dM_L_law_3098 (by decide) (fun _ => ?_) (fun q => absurd (by decide) q)
      refine lv_iload hx hb dM_L_law_3103 (lv_at hl 1 rfl) ?_
      refine lv_if_ne (tgt := 3120) hx hb dM_L_law_3105 (by decide) (fun _ => ?_) (fun q => absurd q (by decide))
      refine lv_goto (tgt := 3410) hx hb dM_L_law_3120 (by decide) ?_
      refine W.widen (k := 600002) (n := 7302232) (Nat.le_of_ble_eq_true rfl) (Nat.le_of_ble_eq_true rfl) ?_
      exact hend _ _ _ hS (lv_sub hl [6, 2] rfl)
  · --
    obtain rfl := hu_13.symm
    obtain ⟨hP1, hD1⟩ := hB
    rw [ht] at hP1
    obtain ⟨hP, hD⟩ := va_join (wr := [(m0, .inr (10, [.ref nw, z1, z2, z3, z4, z5, z6, z7, z8, z9, z10, z11, z12, z13, z14, z15, z16])), (nw, .inr (12, [t0, t1, .int 0, t3, t4, t5, t6, t7, t8, t9, t10, .int 0, t12, t13, t14, t15, t16, t17, t18, .int 0, t20, t21]))]) (w1 := [(ou, .inl (dC 101, 1, .inr (.inl f0)))]) hP hD [0, 1, 2] [3, 4] rfl rfl (by decide) (by decide) hk1 hFc hP1 hD1
    generalize H1 = H at hP hS ⊢
    have hP : va_P (dC, dI) classes [(m0, .inr (10, [.ref nw, z1, z2, z3, z4, z5, z6, z7, z8, z9, z10, z11, z12, z13, z14, z15, z16])), (nw, .inr (12, [t0, t1, .int 0, t3, t4, t5, t6, t7, t8, t9, t10, .int 0, t12, t13, t14, t15, t16, t17, t18, .int 0, t20, t21])), (ou, .inl (dC 101, 1, .inr (.inl f0)))] H := hP
    have hD : va_D A [(m0, .inr (10, [.ref nw, z1, z2, z3, z4, z5, z6, z7, z8, z9, z10, z11, z12, z13, z14, z15, z16])), (nw, .inr (12, [t0, t1, .int 0, t3, t4, t5, t6, t7, t8, t9, t10, .int 0, t12, t13, t14, t15, t16, t17, t18, .int 0, t20, t21])), (ou, .inl (dC 101, 1, .inr (.inl f0)))] := hD
    refine W.widen (k := 405) (n := 120041) (Nat.le_of_ble_eq_true rfl) (Nat.le_of_ble_eq_true rfl) ?_
    refine lv_istore (lv' := [(5, .int 2), (0, .ref b), (1, .ref h0), (2, .ref m0), (3, .ref ou), (4, .int 0)]) hx hb dM_L_law_3060 hl (by decide) rfl (fun ls hl => ?_)
    refine lv_aload_n hx hb dM_L_law_3062 rfl (lv_at hl 3 rfl) ?_
    refine lv_aload_n hx hb dM_L_law_3063 rfl (lv_at hl 1 rfl) ?_
    refine lv_iload hx hb dM_L_law_3064 (lv_at hl 5 rfl) ?_
    refine lv_iconst (v := 1) hx hb dM_L_law_3066 (by decide) ?_
    refine lv_iadd hx hb dM_L_law_3067 ?_
    refine lv_topi (fun y_59 ey_59 => ?_)
    obtain rfl : y_59 = 1 := ey_59.trans (by decide)
    refine va_sld hx hb hX hbl hbA hS (by unfold vp_in; decide) dM_L_law_3068 ?_
    refine lv_topi (fun y_60 ey_60 => ?_)
    obtain rfl : y_2 = y_60 := ey_2.trans ey_60.symm
    refine lv_aload_n hx hb dM_L_law_3069 rfl (lv_at hl 1 rfl) ?_
    refine lv_iload hx hb dM_L_law_3070 (lv_at hl 5 rfl) ?_
    refine lv_iconst (v := 2) hx hb dM_L_law_3072 (by decide) ?_
    refine lv_iadd hx hb dM_L_law_3073 ?_
    refine lv_topi (fun y_61 ey_61 => ?_)
    obtain rfl : y_61 = 2 := ey_61.trans (by decide)
    refine va_sld hx hb hX hbl hbA hS (by unfold vp_in; decide) dM_L_law_3074 ?_
    refine lv_topi (fun y_62 ey_62 => ?_)
    obtain rfl : y_4 = y_62 := ey_4.trans ey_62.symm
    refine lv_aload_n hx hb dM_L_law_3075 rfl (lv_at hl 1 rfl) ?_
    refine lv_iload hx hb dM_L_law_3076 (lv_at hl 5 rfl) ?_
    refine lv_iconst (v := 3) hx hb dM_L_law_3078 (by decide) ?_
    refine lv_iadd hx hb dM_L_law_3079 ?_
    refine lv_topi (fun y_63 ey_63 => ?_)
    obtain rfl : y_63 = 3 := ey_63.trans (by decide)
    refine va_sld hx hb hX hbl hbA hS (by unfold vp_in; decide) dM_L_law_3080 ?_
    refine lv_topi (fun y_64 ey_64 => ?_)
    obtain rfl : y_6 = y_64 := ey_6.trans ey_64.symm
    refine lv_aload_n hx hb dM_L_law_3081 rfl (lv_at hl 1 rfl) ?_
    refine lv_iload hx hb dM_L_law_3082 (lv_at hl 5 rfl) ?_
    refine lv_iconst (v := 4) hx hb dM_L_law_3084 (by decide) ?_
    refine lv_iadd hx hb dM_L_law_3085 ?_
    refine lv_topi (fun y_65 ey_65 => ?_)
    obtain rfl : y_65 = 4 := ey_65.trans (by decide)
    refine va_sld hx hb hX hbl hbA hS (by unfold vp_in; decide) dM_L_law_3086 ?_
    refine lv_topi (fun y_66 ey_66 => ?_)
    obtain rfl : y_8 = y_66 := ey_8.trans ey_66.symm
    have hFc := va_free (wc := [(m0, .inr (10, [.ref nw, z1, z2, z3, z4, z5, z6, z7, z8, z9, z10, z11, z12, z13, z14, z15, z16])), (nw, .inr (12, [t0, t1, .int 0, t3, t4, t5, t6, t7, t8, t9, t10, .int 0, t12, t13, t14, t15, t16, t17, t18, .int 0, t20, t21]))]) hD hS hA [0, 1] rfl
    refine va_calli (va_runV (As := [.int y_2, .int y_4, .int y_6, .int y_8]) (rest := []) ⟨hx, hb, hml, hown, hbg⟩ (c_M_kindIn l dC dI m0 y_2 y_4 y_6 y_8 nw z1 z2 z3 z4 z5 z6 z7 z8 z9 z10 z11 z12 z13 z14 z15 z16 t0 t1 t3 t4 t5 t6 t7 t8 t9 t10 t12 t13 t14 t15 t16 t17 t18 t20 t21 _ ) (cwV 4 hbg (gd_V (fun _ h => h) wd_2831 wd_2832 wd_2833 wd_12 (gd_wm (fun _ h => h) wd_2834)) rfl rfl rfl (by decide +kernel) ⟨Nat.le_of_ble_eq_true rfl, Nat.le_of_ble_eq_true rfl⟩) (nPreV [0, 1] hP hD hK hN hS hA (by decide) rfl 0 rfl rfl) rfl rfl hl.1 rfl (lv_room (Nat.le_of_ble_eq_true rfl)) dM_L_law_3087 ⟨Nat.le_of_ble_eq_true rfl, Nat.le_of_ble_eq_true rfl⟩) hS (fun q _ h => hFc q h) hFc (fun r_67 u t H1 locs ht hvm hw hB hz1 hk1 hS => ?_)
    rcases hw with ⟨c_68, rfl, rfl⟩ | ⟨c_69, rfl, rfl⟩
    · --
      obtain ⟨r0_70, r1_71, r2_72, r3_73, r4_74, r5_75, r6_76, r7_77, r8_78, r9_79, r10_80, r11_81, r12_82, r13_83, r14_84, r15_85, hP1, hD1⟩ := hB
      rw [ht] at hP1
      obtain ⟨hP, hD⟩ := va_join (wr := [(ou, .inl (dC 101, 1, .inr (.inl f0)))]) (w1 := [(m0, .inr (10, [r0_70, r1_71, r2_72, r3_73, r4_74, r5_75, r6_76, r7_77, r8_78, r9_79, r10_80, r11_81, r12_82, r13_83, r14_84, r15_85, .int 2]))]) hP hD [0, 1] [2] rfl rfl (by decide) (by decide) hk1 hFc hP1 hD1
      generalize H1 = H at hP hS ⊢
      have hP : va_P (dC, dI) classes [(ou, .inl (dC 101, 1, .inr (.inl f0))), (m0, .inr (10, [r0_70, r1_71, r2_72, r3_73, r4_74, r5_75, r6_76, r7_77, r8_78, r9_79, r10_80, r11_81, r12_82, r13_83, r14_84, r15_85, .int 2]))] H := hP
      have hD : va_D A [(ou, .inl (dC 101, 1, .inr (.inl f0))), (m0, .inr (10, [r0_70, r1_71, r2_72, r3_73, r4_74, r5_75, r6_76, r7_77, r8_78, r9_79, r10_80, r11_81, r12_82, r13_83, r14_84, r15_85, .int 2]))] := hD
      refine W.widen (k := 405) (n := 120041) (Nat.le_of_ble_eq_true rfl) (Nat.le_of_ble_eq_true rfl) ?_
      refine lv_istore (lv' := [(6, .int 0), (5, .int 2), (0, .ref b), (1, .ref h0), (2, .ref m0), (3, .ref ou), (4, .int 0)]) hx hb dM_L_law_3090 hl (by decide) rfl (fun ls hl => ?_)
      refine lv_aload_n hx hb dM_L_law_3092 rfl (lv_at hl 4 rfl) ?_
      have hFc := va_free (wc := [(m0, .inr (10, [r0_70, r1_71, r2_72, r3_73, r4_74, r5_75, r6_76, r7_77, r8_78, r9_79, r10_80, r11_81, r12_82, r13_83, r14_84, r15_85, .int 2]))]) hD hS hA [1] rfl
      refine va_calli (va_runV (As := []) (rest := []) ⟨hx, hb, hml, hown, hbg⟩ (c_M_thrown l dC dI m0 r0_70 r1_71 r2_72 r3_73 r4_74 r5_75 r6_76 r7_77 r8_78 r9_79 r10_80 r11_81 r12_82 r13_83 r14_84 r15_85 2 _ ) (cwV 0 hbg (gd_V (fun _ h => h) wd_2190 wd_2191 wd_2192 wd_12 (gd_wm (fun _ h => h) wd_2193)) rfl rfl rfl (by decide +kernel) ⟨Nat.le_of_ble_eq_true rfl, Nat.le_of_ble_eq_true rfl⟩) (nPreV [1] hP hD hK hN hS hA (by decide) rfl 1 rfl rfl) rfl rfl hl.1 rfl (lv_room (Nat.le_of_ble_eq_true rfl)) dM_L_law_3093 ⟨Nat.le_of_ble_eq_true rfl, Nat.le_of_ble_eq_true rfl⟩) hS (fun q _ h => hFc q h) hFc (fun r_86 u t H1 locs ht hvm hw hB hz1 hk1 hS => ?_)
      obtain ⟨rfl, rfl⟩ := hw
      obtain ⟨r0_88, r1_89, r2_90, r3_91, r4_92, r5_93, r6_94, r7_95, r8_96, r9_97, r10_98, r11_99, r12_100, r13_101, r14_102, r15_103, hP1, hD1⟩ := hB
      rw [ht] at hP1
      obtain ⟨hP, hD⟩ := va_join (wr := [(ou, .inl (dC 101, 1, .inr (.inl f0)))]) (w1 := [(m0, .inr (10, [r0_88, r1_89, r2_90, r3_91, r4_92, r5_93, r6_94, r7_95, r8_96, r9_97, r10_98, r11_99, r12_100, r13_101, r14_102, r15_103, .int 2]))]) hP hD [1] [0] rfl rfl (by decide) (by decide) hk1 hFc hP1 hD1
      generalize H1 = H at hP hS ⊢
      have hP : va_P (dC, dI) classes [(ou, .inl (dC 101, 1, .inr (.inl f0))), (m0, .inr (10, [r0_88, r1_89, r2_90, r3_91, r4_92, r5_93, r6_94, r7_95, r8_96, r9_97, r10_98, r11_99, r12_100, r13_101, r14_102, r15_103, .int 2]))] H := hP
      have hD : va_D A [(ou, .inl (dC 101, 1, .inr (.inl f0))), (m0, .inr (10, [r0_88, r1_89, r2_90, r3_91, r4_92, r5_93, r6_94, r7_95, r8_96, r9_97, r10_98, r11_99, r12_100, r13_101, r14_102, r15_103, .int 2]))] := hD
      refine W.widen (k := 405) (n := 120041) (Nat.le_of_ble_eq_true rfl) (Nat.le_of_ble_eq_true rfl) ?_
      refine lv_iload hx hb dM_L_law_3096 (lv_at hl 1 rfl) ?_
      refine lv_icmp_eq (tgt := 3103) hx hb dM_L_law_3098 (by decide) (fun _ => ?_) (fun q => absurd (by decide) q)
      refine lv_iload hx hb dM_L_law_3103 (lv_at hl 1 rfl) ?_
      refine lv_if_ne (tgt := 3120) hx hb dM_L_law_3105 (by decide) (fun _ => ?_) (fun q => absurd q (by decide))
      refine lv_goto (tgt := 3410) hx hb dM_L_law_3120 (by decide) ?_
      refine W.widen (k := 600002) (n := 7302232) (Nat.le_of_ble_eq_true rfl) (Nat.le_of_ble_eq_true rfl) ?_
      exact hend _ _ _ hS (lv_sub hl [6, 2] rfl)
    · --
      exact absurd c_12 c_69
set_option maxHeartbeats 4000000 in
set_option maxRecDepth 100000 in
theorem lawc_40 {p : Program} {e : Env} {s : State} {m : MethodId} {below : List Frame} {meth : Method} {c : Code} {Z : State → Prop} (l : Launch) (hl9 : l.stackTraces = false) (dC : Nat → ClassId) (dI : Nat → Nat → Nat) {A : Nat → Prop} {b L : Nat} {xs : Nat → Int32} (hL : L = 8) (hx : p.tables.exec = Jvm.exec) (hb : c.code = cM_L_law) (hml : c.maxLocals = 8) (hown : s.vm.findClass "NoteDocumentLaw" = some m.cls) (hbg : ∀ w ∈ BIG, w.before #[Value.ref b] s = true) (hK : nK (dC, dI) s) (hN : nS A s s.heap) (hA : ∀ q : Nat, s.heap.size ≤ q → A q) (hX : va_X b L xs s s.heap) (hbl : b < s.heap.size) (hbA : ¬ A b) {H : Heap} {locs : List Loc} {ls : Array Slot} {h0 : Nat} {m0 : Nat} {ou : Nat} {st : Nat} {v1 : Value} {v2 : Value} {v3 : Value} {v4 : Value} {v5 : Value} {v6 : Value} {v7 : Value} {v8 : Value} {v9 : Value} {v10 : Value} {w3 : Value} {w4 : Value} {w5 : Value} {w6 : Value} {w7 : Value} {w8 : Value} {w9 : Value} {w10 : Value} {w11 : Value} {w12 : Value} {w13 : Value} {w14 : Value} {w15 : Value} {w16 : Value} {w17 : Value} {w18 : Value} {w19 : Value} {f0 : Nat → Int64} {nw : Nat} {z1 : Value} {z2 : Value} {z3 : Value} {z4 : Value} {z5 : Value} {z6 : Value} {z7 : Value} {z8 : Value} {z9 : Value} {z10 : Value} {z11 : Value} {z12 : Value} {z13 : Value} {z14 : Value} {z15 : Value} {z16 : Value} {t0 : Value} {t1 : Value} {t3 : Value} {t4 : Value} {t5 : Value} {t6 : Value} {t7 : Value} {t8 : Value} {t9 : Value} {t10 : Value} {t12 : Value} {t13 : Value} {t14 : Value} {t15 : Value} {t16 : Value} {t17 : Value} {t18 : Value} {t20 : Value} {t21 : Value} (hP : va_P (dC, dI) classes [(h0, .inr (0, [.ref st, v1, v2, v3, v4, v5, v6, v7, v8, v9, v10])), (st, .inr (8, [.int 0, .int 0, .int 0, w3, w4, w5, w6, w7, w8, w9, w10, w11, w12, w13, w14, w15, w16, w17, w18, w19])), (ou, .inl (dC 101, 1, .inr (.inl f0))), (m0, .inr (10, [.ref nw, z1, z2, z3, z4, z5, z6, z7, z8, z9, z10, z11, z12, z13, z14, z15, z16])), (nw, .inr (12, [t0, t1, .int 0, t3, t4, t5, t6, t7, t8, t9, t10, .int 0, t12, t13, t14, t15, t16, t17, t18, .int 0, t20, t21]))] H) (hD : va_D A [(h0, .inr (0, [.ref st, v1, v2, v3, v4, v5, v6, v7, v8, v9, v10])), (st, .inr (8, [.int 0, .int 0, .int 0, w3, w4, w5, w6, w7, w8, w9, w10, w11, w12, w13, w14, w15, w16, w17, w18, w19])), (ou, .inl (dC 101, 1, .inr (.inl f0))), (m0, .inr (10, [.ref nw, z1, z2, z3, z4, z5, z6, z7, z8, z9, z10, z11, z12, z13, z14, z15, z16])), (nw, .inr (12, [t0, t1, .int 0, t3, t4, t5, t6, t7, t8, t9, t10, .int 0, t12, t13, t14, t15, t16, t17, t18, .int 0, t20, t21]))]) (hS : va_S A s.heap H locs) (hl : lv_has ls 8 [(0, .ref b), (1, .ref h0), (2, .ref m0), (3, .ref ou), (4, .int 0)]) (hend : ∀ (H : Heap) (locs : List Loc) (ls : Array Slot), va_S A s.heap H locs → lv_has ls 8 [(4, .int 0), (0, .ref b)] → W p l e room_1 s m #[Value.ref b] below meth c H locs 600002 7302232 Z (F0 m 3410 ls [])) : W p l e room_1 s m #[Value.ref b] below meth c H locs 403 120029 Z (F0 m 3123 ls []) := by
  subst hL
  refine lv_aload_n hx hb dM_L_law_3123 rfl (lv_at hl 1 rfl) ?_
  refine lv_aload_n hx hb dM_L_law_3124 rfl (lv_at hl 0 rfl) ?_
  refine lv_iload hx hb dM_L_law_3125 (lv_at hl 4 rfl) ?_
  refine lv_iconst (v := 1) hx hb dM_L_law_3127 (by decide) ?_
  refine lv_iadd hx hb dM_L_law_3128 ?_
  refine lv_topi (fun y_1 ey_1 => ?_)
  obtain rfl : y_1 = 1 := ey_1.trans (by decide)
  refine va_sld hx hb hX hbl hbA hS (by unfold vp_in; decide) dM_L_law_3129 ?_
  refine lv_topi (fun y_2 ey_2 => ?_)
  refine lv_aload_n hx hb dM_L_law_3130 rfl (lv_at hl 0 rfl) ?_
  refine lv_iload hx hb dM_L_law_3131 (lv_at hl 4 rfl) ?_
  refine lv_iconst (v := 2) hx hb dM_L_law_3133 (by decide) ?_
  refine lv_iadd hx hb dM_L_law_3134 ?_
  refine lv_topi (fun y_3 ey_3 => ?_)
  obtain rfl : y_3 = 2 := ey_3.trans (by decide)
  refine va_sld hx hb hX hbl hbA hS (by unfold vp_in; decide) dM_L_law_3135 ?_
  refine lv_topi (fun y_4 ey_4 => ?_)
  refine lv_aload_n hx hb dM_L_law_3136 rfl (lv_at hl 0 rfl) ?_
  refine lv_iload hx hb dM_L_law_3137 (lv_at hl 4 rfl) ?_
  refine lv_iconst (v := 3) hx hb dM_L_law_3139 (by decide) ?_
  refine lv_iadd hx hb dM_L_law_3140 ?_
  refine lv_topi (fun y_5 ey_5 => ?_)
  obtain rfl : y_5 = 3 := ey_5.trans (by decide)
  refine va_sld hx hb hX hbl hbA hS (by unfold vp_in; decide) dM_L_law_3141 ?_
  refine lv_topi (fun y_6 ey_6 => ?_)
  refine lv_aload_n hx hb dM_L_law_3142 rfl (lv_at hl 0 rfl) ?_
  refine lv_iload hx hb dM_L_law_3143 (lv_at hl 4 rfl) ?_
  refine lv_iconst (v := 4) hx hb dM_L_law_3145 (by decide) ?_
  refine lv_iadd hx hb dM_L_law_3146 ?_
  refine lv_topi (fun y_7 ey_7 => ?_)
  obtain rfl : y_7 = 4 := ey_7.trans (by decide)
  refine va_sld hx hb hX hbl hbA hS (by unfold vp_in; decide) dM_L_law_3147 ?_
  refine lv_topi (fun y_8 ey_8 => ?_)
  refine lv_aload_n hx hb dM_L_law_3148 rfl (lv_at hl 3 rfl) ?_
  have hFc := va_free (wc := [(h0, .inr (0, [.ref st, v1, v2, v3, v4, v5, v6, v7, v8, v9, v10])), (st, .inr (8, [.int 0, .int 0, .int 0, w3, w4, w5, w6, w7, w8, w9, w10, w11, w12, w13, w14, w15, w16, w17, w18, w19])), (ou, .inl (dC 101, 1, .inr (.inl f0)))]) hD hS hA [0, 1, 2] rfl
  refine va_calli (vx_runSW (As := [.ref h0, .int y_2, .int y_4, .int y_6, .int y_8, .ref ou]) (rest := []) ⟨hx, hb, hml, hown, hbg⟩ (c_L_valueIn l hl9 dC dI h0 y_2 y_4 y_6 y_8 ou st v1 v2 v3 v4 v5 v6 v7 v8 v9 v10 w3 w4 w5 w6 w7 w8 w9 w10 w11 w12 w13 w14 w15 w16 w17 w18 w19 f0 _ ) (vx_cwSW 6 hbg (gd_S (fun _ h => h) wd_1886 wd_1887 wd_0 (gd_wmW (fun _ h => h) wd_1888)) rfl rfl rfl (by decide +kernel) ⟨Nat.le_of_ble_eq_true rfl, Nat.le_of_ble_eq_true rfl⟩) (nPreS [0, 1, 2] hP hD hK hN hS hA (by decide) rfl) rfl rfl hl.1 rfl (lv_room (Nat.le_of_ble_eq_true rfl)) dM_L_law_3149 ⟨Nat.le_of_ble_eq_true rfl, Nat.le_of_ble_eq_true rfl⟩) hS (fun q _ h => hFc q h) hFc (fun r_9 u t H1 locs ht hvm hw hB hz1 hk1 hS => ?_)
  rcases hw with ⟨c_10, rfl, hu_11⟩ | ⟨c_12, rfl, hu_13⟩
  · --
    obtain rfl := hu_11.symm
    obtain ⟨hP1, hD1⟩ := hB
    rw [ht] at hP1
    obtain ⟨hP, hD⟩ := va_join (wr := [(m0, .inr (10, [.ref nw, z1, z2, z3, z4, z5, z6, z7, z8, z9, z10, z11, z12, z13, z14, z15, z16])), (nw, .inr (12, [t0, t1, .int 0, t3, t4, t5, t6, t7, t8, t9, t10, .int 0, t12, t13, t14, t15, t16, t17, t18, .int 0, t20, t21]))]) (w1 := [(ou, .inl (dC 101, 1, .inr (.inl f0)))]) hP hD [0, 1, 2] [3, 4] rfl rfl (by decide) (by decide) hk1 hFc hP1 hD1
    generalize H1 = H at hP hS ⊢
    have hP : va_P (dC, dI) classes [(m0, .inr (10, [.ref nw, z1, z2, z3, z4, z5, z6, z7, z8, z9, z10, z11, z12, z13, z14, z15, z16])), (nw, .inr (12, [t0, t1, .int 0, t3, t4, t5, t6, t7, t8, t9, t10, .int 0, t12, t13, t14, t15, t16, t17, t18, .int 0, t20, t21])), (ou, .inl (dC 101, 1, .inr (.inl f0)))] H := hP
    have hD : va_D A [(m0, .inr (10, [.ref nw, z1, z2, z3, z4, z5, z6, z7, z8, z9, z10, z11, z12, z13, z14, z15, z16])), (nw, .inr (12, [t0, t1, .int 0, t3, t4, t5, t6, t7, t8, t9, t10, .int 0, t12, t13, t14, t15, t16, t17, t18, .int 0, t20, t21])), (ou, .inl (dC 101, 1, .inr (.inl f0)))] := hD
    refine W.widen (k := 405) (n := 120041) (Nat.le_of_ble_eq_true rfl) (Nat.le_of_ble_eq_true rfl) ?_
    refine lv_istore (lv' := [(5, .int 1), (0, .ref b), (1, .ref h0), (2, .ref m0), (3, .ref ou), (4, .int 0)]) hx hb dM_L_law_3152 hl (by decide) rfl (fun ls hl => ?_)
    refine lv_aload_n hx hb dM_L_law_3154 rfl (lv_at hl 3 rfl) ?_
    refine lv_aload_n hx hb dM_L_law_3155 rfl (lv_at hl 1 rfl) ?_
    refine lv_iload hx hb dM_L_law_3156 (lv_at hl 5 rfl) ?_
    refine lv_iconst (v := 1) hx hb dM_L_law_3158 (by decide) ?_
    refine lv_iadd hx hb dM_L_law_3159 ?_
    refine lv_topi (fun y_14 ey_14 => ?_)
    obtain rfl : y_14 = 1 := ey_14.trans (by decide)
    refine va_sld hx hb hX hbl hbA hS (by unfold vp_in; decide) dM_L_law_3160 ?_
    refine lv_topi (fun y_15 ey_15 => ?_)
    obtain rfl : y_2 = y_15 := ey_2.trans ey_15.symm
    refine lv_aload_n hx hb dM_L_law_3161 rfl (lv_at hl 1 rfl) ?_
    refine lv_iload hx hb dM_L_law_3162 (lv_at hl 5 rfl) ?_
    refine lv_iconst (v := 2) hx hb dM_L_law_3164 (by decide) ?_
    refine lv_iadd hx hb dM_L_law_3165 ?_
    refine lv_topi (fun y_16 ey_16 => ?_)
    obtain rfl : y_16 = 2 := ey_16.trans (by decide)
    refine va_sld hx hb hX hbl hbA hS (by unfold vp_in; decide) dM_L_law_3166 ?_
    refine lv_topi (fun y_17 ey_17 => ?_)
    obtain rfl : y_4 = y_17 := ey_4.trans ey_17.symm
    refine lv_aload_n hx hb dM_L_law_3167 rfl (lv_at hl 1 rfl) ?_
    refine lv_iload hx hb dM_L_law_3168 (lv_at hl 5 rfl) ?_
    refine lv_iconst (v := 3) hx hb dM_L_law_3170 (by decide) ?_
    refine lv_iadd hx hb dM_L_law_3171 ?_
    refine lv_topi (fun y_18 ey_18 => ?_)
    obtain rfl : y_18 = 3 := ey_18.trans (by decide)
    refine va_sld hx hb hX hbl hbA hS (by unfold vp_in; decide) dM_L_law_3172 ?_
    refine lv_topi (fun y_19 ey_19 => ?_)
    obtain rfl : y_6 = y_19 := ey_6.trans ey_19.symm
    refine lv_aload_n hx hb dM_L_law_3173 rfl (lv_at hl 1 rfl) ?_
    refine lv_iload hx hb dM_L_law_3174 (lv_at hl 5 rfl) ?_
    refine lv_iconst (v := 4) hx hb dM_L_law_3176 (by decide) ?_
    refine lv_iadd hx hb dM_L_law_3177 ?_
    refine lv_topi (fun y_20 ey_20 => ?_)
    obtain rfl : y_20 = 4 := ey_20.trans (by decide)
    refine va_sld hx hb hX hbl hbA hS (by unfold vp_in; decide) dM_L_law_3178 ?_
    refine lv_topi (fun y_21 ey_21 => ?_)
    obtain rfl : y_8 = y_21 := ey_8.trans ey_21.symm
    have hFc := va_free (wc := [(m0, .inr (10, [.ref nw, z1, z2, z3, z4, z5, z6, z7, z8, z9, z10, z11, z12, z13, z14, z15, z16])), (nw, .inr (12, [t0, t1, .int 0, t3, t4, t5, t6, t7, t8, t9, t10, .int 0, t12, t13, t14, t15, t16, t17, t18, .int 0, t20, t21]))]) hD hS hA [0, 1] rfl
    refine va_calll (va_runV (As := [.int y_2, .int y_4, .int y_6, .int y_8]) (rest := []) ⟨hx, hb, hml, hown, hbg⟩ (c_M_valueIn l dC dI m0 y_2 y_4 y_6 y_8 nw z1 z2 z3 z4 z5 z6 z7 z8 z9 z10 z11 z12 z13 z14 z15 z16 t0 t1 t3 t4 t5 t6 t7 t8 t9 t10 t12 t13 t14 t15 t16 t17 t18 t20 t21 _ ) (cwV 4 hbg (gd_V (fun _ h => h) wd_2835 wd_2836 wd_2837 wd_12 (gd_wm (fun _ h => h) wd_2838)) rfl rfl rfl (by decide +kernel) ⟨Nat.le_of_ble_eq_true rfl, Nat.le_of_ble_eq_true rfl⟩) (nPreV [0, 1] hP hD hK hN hS hA (by decide) rfl 0 rfl rfl) rfl rfl hl.1 rfl (lv_room (Nat.le_of_ble_eq_true rfl)) dM_L_law_3179 ⟨Nat.le_of_ble_eq_true rfl, Nat.le_of_ble_eq_true rfl⟩) hS (fun q _ h => hFc q h) hFc (fun r_22 u t H1 locs ht hvm hw hB hz1 hk1 hS => ?_)
    rcases hw with ⟨c_23, rfl, rfl⟩ | ⟨c_24, rfl, rfl⟩
    · --
      exact absurd c_23 c_10
    · --
      obtain ⟨r0_25, r1_26, r2_27, r3_28, r4_29, r5_30, r6_31, r7_32, r8_33, r9_34, r10_35, r11_36, r12_37, r13_38, r14_39, r15_40, hP1, hD1⟩ := hB
      rw [ht] at hP1
      obtain ⟨hP, hD⟩ := va_join (wr := [(ou, .inl (dC 101, 1, .inr (.inl f0)))]) (w1 := [(m0, .inr (10, [r0_25, r1_26, r2_27, r3_28, r4_29, r5_30, r6_31, r7_32, r8_33, r9_34, r10_35, r11_36, r12_37, r13_38, r14_39, r15_40, .int 1]))]) hP hD [0, 1] [2] rfl rfl (by decide) (by decide) hk1 hFc hP1 hD1
      generalize H1 = H at hP hS ⊢
      have hP : va_P (dC, dI) classes [(ou, .inl (dC 101, 1, .inr (.inl f0))), (m0, .inr (10, [r0_25, r1_26, r2_27, r3_28, r4_29, r5_30, r6_31, r7_32, r8_33, r9_34, r10_35, r11_36, r12_37, r13_38, r14_39, r15_40, .int 1]))] H := hP
      have hD : va_D A [(ou, .inl (dC 101, 1, .inr (.inl f0))), (m0, .inr (10, [r0_25, r1_26, r2_27, r3_28, r4_29, r5_30, r6_31, r7_32, r8_33, r9_34, r10_35, r11_36, r12_37, r13_38, r14_39, r15_40, .int 1]))] := hD
      refine W.widen (k := 405) (n := 120041) (Nat.le_of_ble_eq_true rfl) (Nat.le_of_ble_eq_true rfl) ?_
      refine lv_lstore (lv' := [(6, .long 0), (5, .int 1), (0, .ref b), (1, .ref h0), (2, .ref m0), (3, .ref ou), (4, .int 0)]) hx hb dM_L_law_3182 hl (by decide) rfl (fun ls hl => ?_)
      refine lv_aload_n hx hb dM_L_law_3184 rfl (lv_at hl 4 rfl) ?_
      have hFc := va_free (wc := [(m0, .inr (10, [r0_25, r1_26, r2_27, r3_28, r4_29, r5_30, r6_31, r7_32, r8_33, r9_34, r10_35, r11_36, r12_37, r13_38, r14_39, r15_40, .int 1]))]) hD hS hA [1] rfl
      refine va_calli (va_runV (As := []) (rest := []) ⟨hx, hb, hml, hown, hbg⟩ (c_M_thrown l dC dI m0 r0_25 r1_26 r2_27 r3_28 r4_29 r5_30 r6_31 r7_32 r8_33 r9_34 r10_35 r11_36 r12_37 r13_38 r14_39 r15_40 1 _ ) (cwV 0 hbg (gd_V (fun _ h => h) wd_2190 wd_2191 wd_2192 wd_12 (gd_wm (fun _ h => h) wd_2193)) rfl rfl rfl (by decide +kernel) ⟨Nat.le_of_ble_eq_true rfl, Nat.le_of_ble_eq_true rfl⟩) (nPreV [1] hP hD hK hN hS hA (by decide) rfl 1 rfl rfl) rfl rfl hl.1 rfl (lv_room (Nat.le_of_ble_eq_true rfl)) dM_L_law_3185 ⟨Nat.le_of_ble_eq_true rfl, Nat.le_of_ble_eq_true rfl⟩) hS (fun q _ h => hFc q h) hFc (fun r_41 u t H1 locs ht hvm hw hB hz1 hk1 hS => ?_)
      obtain ⟨rfl, rfl⟩ := hw
      obtain ⟨r0_43, r1_44, r2_45, r3_46, r4_47, r5_48, r6_49, r7_50, r8_51, r9_52, r10_53, r11_54, r12_55, r13_56, r14_57, r15_58, hP1, hD1⟩ := hB
      rw [ht] at hP1
      obtain ⟨hP, hD⟩ := va_join (wr := [(ou, .inl (dC 101, 1, .inr (.inl f0)))]) (w1 := [(m0, .inr (10, [r0_43, r1_44, r2_45, r3_46, r4_47, r5_48, r6_49, r7_50, r8_51, r9_52, r10_53, r11_54, r12_55, r13_56, r14_57, r15_58, .int 1]))]) hP hD [1] [0] rfl rfl (by decide) (by decide) hk1 hFc hP1 hD1
      generalize H1 = H at hP hS ⊢
      have hP : va_P (dC, dI) classes [(ou, .inl (dC 101, 1, .inr (.inl f0))), (m0, .inr (10, [r0_43, r1_44, r2_45, r3_46, r4_47, r5_48, r6_49, r7_50, r8_51, r9_52, r10_53, r11_54, r12_55, r13_56, r14_57, r15_58, .int 1]))] H := hP
      have hD : va_D A [(ou, .inl (dC 101, 1, .inr (.inl f0))), (m0, .inr (10, [r0_43, r1_44, r2_45, r3_46, r4_47, r5_48, r6_49, r7_50, r8_51, r9_52, r10_53, r11_54, r12_55, r13_56, r14_57, r15_58, .int 1]))] := hD
      refine W.widen (k := 405) (n := 120041) (Nat.le_of_ble_eq_true rfl) (Nat.le_of_ble_eq_true rfl) ?_
      refine lv_iload hx hb dM_L_law_3188 (lv_at hl 1 rfl) ?_
      refine lv_icmp_eq (tgt := 3195) hx hb dM_L_law_3190 (by decide) (fun _ => ?_) (fun q => absurd (by decide) q)
      refine lv_iload hx hb dM_L_law_3195 (lv_at hl 1 rfl) ?_
      refine lv_if_ne (tgt := 3211) hx hb dM_L_law_3197 (by decide) (fun _ => ?_) (fun q => absurd q (by decide))
      refine lv_goto (tgt := 3410) hx hb dM_L_law_3211 (by decide) ?_
      refine W.widen (k := 600002) (n := 7302232) (Nat.le_of_ble_eq_true rfl) (Nat.le_of_ble_eq_true rfl) ?_
      exact hend _ _ _ hS (lv_sub hl [6, 2] rfl)
  · --
    obtain rfl := hu_13.symm
    obtain ⟨hP1, hD1⟩ := hB
    rw [ht] at hP1
    obtain ⟨hP, hD⟩ := va_join (wr := [(m0, .inr (10, [.ref nw, z1, z2, z3, z4, z5, z6, z7, z8, z9, z10, z11, z12, z13, z14, z15, z16])), (nw, .inr (12, [t0, t1, .int 0, t3, t4, t5, t6, t7, t8, t9, t10, .int 0, t12, t13, t14, t15, t16, t17, t18, .int 0, t20, t21]))]) (w1 := [(ou, .inl (dC 101, 1, .inr (.inl f0)))]) hP hD [0, 1, 2] [3, 4] rfl rfl (by decide) (by decide) hk1 hFc hP1 hD1
    generalize H1 = H at hP hS ⊢
    have hP : va_P (dC, dI) classes [(m0, .inr (10, [.ref nw, z1, z2, z3, z4, z5, z6, z7, z8, z9, z10, z11, z12, z13, z14, z15, z16])), (nw, .inr (12, [t0, t1, .int 0, t3, t4, t5, t6, t7, t8, t9, t10, .int 0, t12, t13, t14, t15, t16, t17, t18, .int 0, t20, t21])), (ou, .inl (dC 101, 1, .inr (.inl f0)))] H := hP
    have hD : va_D A [(m0, .inr (10, [.ref nw, z1, z2, z3, z4, z5, z6, z7, z8, z9, z10, z11, z12, z13, z14, z15, z16])), (nw, .inr (12, [t0, t1, .int 0, t3, t4, t5, t6, t7, t8, t9, t10, .int 0, t12, t13, t14, t15, t16, t17, t18, .int 0, t20, t21])), (ou, .inl (dC 101, 1, .inr (.inl f0)))] := hD
    refine W.widen (k := 405) (n := 120041) (Nat.le_of_ble_eq_true rfl) (Nat.le_of_ble_eq_true rfl) ?_
    refine lv_istore (lv' := [(5, .int 2), (0, .ref b), (1, .ref h0), (2, .ref m0), (3, .ref ou), (4, .int 0)]) hx hb dM_L_law_3152 hl (by decide) rfl (fun ls hl => ?_)
    refine lv_aload_n hx hb dM_L_law_3154 rfl (lv_at hl 3 rfl) ?_
    refine lv_aload_n hx hb dM_L_law_3155 rfl (lv_at hl 1 rfl) ?_
    refine lv_iload hx hb dM_L_law_3156 (lv_at hl 5 rfl) ?_
    refine lv_iconst (v := 1) hx hb dM_L_law_3158 (by decide) ?_
    refine lv_iadd hx hb dM_L_law_3159 ?_
    refine lv_topi (fun y_59 ey_59 => ?_)
    obtain rfl : y_59 = 1 := ey_59.trans (by decide)
    refine va_sld hx hb hX hbl hbA hS (by unfold vp_in; decide) dM_L_law_3160 ?_
    refine lv_topi (fun y_60 ey_60 => ?_)
    obtain rfl : y_2 = y_60 := ey_2.trans ey_60.symm
    refine lv_aload_n hx hb dM_L_law_3161 rfl (lv_at hl 1 rfl) ?_
    refine lv_iload hx hb dM_L_law_3162 (lv_at hl 5 rfl) ?_
    refine lv_iconst (v := 2) hx hb dM_L_law_3164 (by decide) ?_
    refine lv_iadd hx hb dM_L_law_3165 ?_
    refine lv_topi (fun y_61 ey_61 => ?_)
    obtain rfl : y_61 = 2 := ey_61.trans (by decide)
    refine va_sld hx hb hX hbl hbA hS (by unfold vp_in; decide) dM_L_law_3166 ?_
    refine lv_topi (fun y_62 ey_62 => ?_)
    obtain rfl : y_4 = y_62 := ey_4.trans ey_62.symm
    refine lv_aload_n hx hb dM_L_law_3167 rfl (lv_at hl 1 rfl) ?_
    refine lv_iload hx hb dM_L_law_3168 (lv_at hl 5 rfl) ?_
    refine lv_iconst (v := 3) hx hb dM_L_law_3170 (by decide) ?_
    refine lv_iadd hx hb dM_L_law_3171 ?_
    refine lv_topi (fun y_63 ey_63 => ?_)
    obtain rfl : y_63 = 3 := ey_63.trans (by decide)
    refine va_sld hx hb hX hbl hbA hS (by unfold vp_in; decide) dM_L_law_3172 ?_
    refine lv_topi (fun y_64 ey_64 => ?_)
    obtain rfl : y_6 = y_64 := ey_6.trans ey_64.symm
    refine lv_aload_n hx hb dM_L_law_3173 rfl (lv_at hl 1 rfl) ?_
    refine lv_iload hx hb dM_L_law_3174 (lv_at hl 5 rfl) ?_
    refine lv_iconst (v := 4) hx hb dM_L_law_3176 (by decide) ?_
    refine lv_iadd hx hb dM_L_law_3177 ?_
    refine lv_topi (fun y_65 ey_65 => ?_)
    obtain rfl : y_65 = 4 := ey_65.trans (by decide)
    refine va_sld hx hb hX hbl hbA hS (by unfold vp_in; decide) dM_L_law_3178 ?_
    refine lv_topi (fun y_66 ey_66 => ?_)
    obtain rfl : y_8 = y_66 := ey_8.trans ey_66.symm
    have hFc := va_free (wc := [(m0, .inr (10, [.ref nw, z1, z2, z3, z4, z5, z6, z7, z8, z9, z10, z11, z12, z13, z14, z15, z16])), (nw, .inr (12, [t0, t1, .int 0, t3, t4, t5, t6, t7, t8, t9, t10, .int 0, t12, t13, t14, t15, t16, t17, t18, .int 0, t20, t21]))]) hD hS hA [0, 1] rfl
    refine va_calll (va_runV (As := [.int y_2, .int y_4, .int y_6, .int y_8]) (rest := []) ⟨hx, hb, hml, hown, hbg⟩ (c_M_valueIn l dC dI m0 y_2 y_4 y_6 y_8 nw z1 z2 z3 z4 z5 z6 z7 z8 z9 z10 z11 z12 z13 z14 z15 z16 t0 t1 t3 t4 t5 t6 t7 t8 t9 t10 t12 t13 t14 t15 t16 t17 t18 t20 t21 _ ) (cwV 4 hbg (gd_V (fun _ h => h) wd_2835 wd_2836 wd_2837 wd_12 (gd_wm (fun _ h => h) wd_2838)) rfl rfl rfl (by decide +kernel) ⟨Nat.le_of_ble_eq_true rfl, Nat.le_of_ble_eq_true rfl⟩) (nPreV [0, 1] hP hD hK hN hS hA (by decide) rfl 0 rfl rfl) rfl rfl hl.1 rfl (lv_room (Nat.le_of_ble_eq_true rfl)) dM_L_law_3179 ⟨Nat.le_of_ble_eq_true rfl, Nat.le_of_ble_eq_true rfl⟩) hS (fun q _ h => hFc q h) hFc (fun r_67 u t H1 locs ht hvm hw hB hz1 hk1 hS => ?_)
    rcases hw with ⟨c_68, rfl, rfl⟩ | ⟨c_69, rfl, rfl⟩
    · --
      obtain ⟨r0_70, r1_71, r2_72, r3_73, r4_74, r5_75, r6_76, r7_77, r8_78, r9_79, r10_80, r11_81, r12_82, r13_83, r14_84, r15_85, hP1, hD1⟩ := hB
      rw [ht] at hP1
      obtain ⟨hP, hD⟩ := va_join (wr := [(ou, .inl (dC 101, 1, .inr (.inl f0)))]) (w1 := [(m0, .inr (10, [r0_70, r1_71, r2_72, r3_73, r4_74, r5_75, r6_76, r7_77, r8_78, r9_79, r10_80, r11_81, r12_82, r13_83, r14_84, r15_85, .int 2]))]) hP hD [0, 1] [2] rfl rfl (by decide) (by decide) hk1 hFc hP1 hD1
      generalize H1 = H at hP hS ⊢
      have hP : va_P (dC, dI) classes [(ou, .inl (dC 101, 1, .inr (.inl f0))), (m0, .inr (10, [r0_70, r1_71, r2_72, r3_73, r4_74, r5_75, r6_76, r7_77, r8_78, r9_79, r10_80, r11_81, r12_82, r13_83, r14_84, r15_85, .int 2]))] H := hP
      have hD : va_D A [(ou, .inl (dC 101, 1, .inr (.inl f0))), (m0, .inr (10, [r0_70, r1_71, r2_72, r3_73, r4_74, r5_75, r6_76, r7_77, r8_78, r9_79, r10_80, r11_81, r12_82, r13_83, r14_84, r15_85, .int 2]))] := hD
      refine W.widen (k := 405) (n := 120041) (Nat.le_of_ble_eq_true rfl) (Nat.le_of_ble_eq_true rfl) ?_
      refine lv_lstore (lv' := [(6, .long 0), (5, .int 2), (0, .ref b), (1, .ref h0), (2, .ref m0), (3, .ref ou), (4, .int 0)]) hx hb dM_L_law_3182 hl (by decide) rfl (fun ls hl => ?_)
      refine lv_aload_n hx hb dM_L_law_3184 rfl (lv_at hl 4 rfl) ?_
      have hFc := va_free (wc := [(m0, .inr (10, [r0_70, r1_71, r2_72, r3_73, r4_74, r5_75, r6_76, r7_77, r8_78, r9_79, r10_80, r11_81, r12_82, r13_83, r14_84, r15_85, .int 2]))]) hD hS hA [1] rfl
      refine va_calli (va_runV (As := []) (rest := []) ⟨hx, hb, hml, hown, hbg⟩ (c_M_thrown l dC dI m0 r0_70 r1_71 r2_72 r3_73 r4_74 r5_75 r6_76 r7_77 r8_78 r9_79 r10_80 r11_81 r12_82 r13_83 r14_84 r15_85 2 _ ) (cwV 0 hbg (gd_V (fun _ h => h) wd_2190 wd_2191 wd_2192 wd_12 (gd_wm (fun _ h => h) wd_2193)) rfl rfl rfl (by decide +kernel) ⟨Nat.le_of_ble_eq_true rfl, Nat.le_of_ble_eq_true rfl⟩) (nPreV [1] hP hD hK hN hS hA (by decide) rfl 1 rfl rfl) rfl rfl hl.1 rfl (lv_room (Nat.le_of_ble_eq_true rfl)) dM_L_law_3185 ⟨Nat.le_of_ble_eq_true rfl, Nat.le_of_ble_eq_true rfl⟩) hS (fun q _ h => hFc q h) hFc (fun r_86 u t H1 locs ht hvm hw hB hz1 hk1 hS => ?_)
      obtain ⟨rfl, rfl⟩ := hw
      obtain ⟨r0_88, r1_89, r2_90, r3_91, r4_92, r5_93, r6_94, r7_95, r8_96, r9_97, r10_98, r11_99, r12_100, r13_101, r14_102, r15_103, hP1, hD1⟩ := hB
      rw [ht] at hP1
      obtain ⟨hP, hD⟩ := va_join (wr := [(ou, .inl (dC 101, 1, .inr (.inl f0)))]) (w1 := [(m0, .inr (10, [r0_88, r1_89, r2_90, r3_91, r4_92, r5_93, r6_94, r7_95, r8_96, r9_97, r10_98, r11_99, r12_100, r13_101, r14_102, r15_103, .int 2]))]) hP hD [1] [0] rfl rfl (by decide) (by decide) hk1 hFc hP1 hD1
      generalize H1 = H at hP hS ⊢
      have hP : va_P (dC, dI) classes [(ou, .inl (dC 101, 1, .inr (.inl f0))), (m0, .inr (10, [r0_88, r1_89, r2_90, r3_91, r4_92, r5_93, r6_94, r7_95, r8_96, r9_97, r10_98, r11_99, r12_100, r13_101, r14_102, r15_103, .int 2]))] H := hP
      have hD : va_D A [(ou, .inl (dC 101, 1, .inr (.inl f0))), (m0, .inr (10, [r0_88, r1_89, r2_90, r3_91, r4_92, r5_93, r6_94, r7_95, r8_96, r9_97, r10_98, r11_99, r12_100, r13_101, r14_102, r15_103, .int 2]))] := hD
      refine W.widen (k := 405) (n := 120041) (Nat.le_of_ble_eq_true rfl) (Nat.le_of_ble_eq_true rfl) ?_
      refine lv_iload hx hb dM_L_law_3188 (lv_at hl 1 rfl) ?_
      refine lv_icmp_eq (tgt := 3195) hx hb dM_L_law_3190 (by decide) (fun _ => ?_) (fun q => absurd (by decide) q)
      refine lv_iload hx hb dM_L_law_3195 (lv_at hl 1 rfl) ?_
      refine lv_if_ne (tgt := 3211) hx hb dM_L_law_3197 (by decide) (fun _ => ?_) (fun q => absurd q (by decide))
      refine lv_goto (tgt := 3410) hx hb dM_L_law_3211 (by decide) ?_
      refine W.widen (k := 600002) (n := 7302232) (Nat.le_of_ble_eq_true rfl) (Nat.le_of_ble_eq_true rfl) ?_
      exact hend _ _ _ hS (lv_sub hl [6, 2] rfl)
    · --
      exact absurd c_12 c_69
set_option maxHeartbeats 4000000 in
set_option maxRecDepth 100000 in
theorem lawc_41 {p : Program} {e : Env} {s : State} {m : MethodId} {below : List Frame} {meth : Method} {c : Code} {Z : State → Prop} (l : Launch) (hl9 : l.stackTraces = false) (dC : Nat → ClassId) (dI : Nat → Nat → Nat) {A : Nat → Prop} {b L : Nat} {xs : Nat → Int32} (hL : L = 8) (hx : p.tables.exec = Jvm.exec) (hb : c.code = cM_L_law) (hml : c.maxLocals = 8) (hown : s.vm.findClass "NoteDocumentLaw" = some m.cls) (hbg : ∀ w ∈ BIG, w.before #[Value.ref b] s = true) (hK : nK (dC, dI) s) (hN : nS A s s.heap) (hA : ∀ q : Nat, s.heap.size ≤ q → A q) (hX : va_X b L xs s s.heap) (hbl : b < s.heap.size) (hbA : ¬ A b) {H : Heap} {locs : List Loc} {ls : Array Slot} {h0 : Nat} {m0 : Nat} {ou : Nat} {st : Nat} {v1 : Value} {v2 : Value} {v3 : Value} {v4 : Value} {v5 : Value} {v6 : Value} {v7 : Value} {v8 : Value} {v9 : Value} {v10 : Value} {w3 : Value} {w4 : Value} {w5 : Value} {w6 : Value} {w7 : Value} {w8 : Value} {w9 : Value} {w10 : Value} {w11 : Value} {w12 : Value} {w13 : Value} {w14 : Value} {w15 : Value} {w16 : Value} {w17 : Value} {w18 : Value} {w19 : Value} {f0 : Nat → Int64} {nw : Nat} {z1 : Value} {z2 : Value} {z3 : Value} {z4 : Value} {z5 : Value} {z6 : Value} {z7 : Value} {z8 : Value} {z9 : Value} {z10 : Value} {z11 : Value} {z12 : Value} {z13 : Value} {z14 : Value} {z15 : Value} {z16 : Value} {t0 : Value} {t1 : Value} {t3 : Value} {t4 : Value} {t5 : Value} {t6 : Value} {t7 : Value} {t8 : Value} {t9 : Value} {t10 : Value} {t12 : Value} {t13 : Value} {t14 : Value} {t15 : Value} {t16 : Value} {t17 : Value} {t18 : Value} {t20 : Value} {t21 : Value} (hP : va_P (dC, dI) classes [(h0, .inr (0, [.ref st, v1, v2, v3, v4, v5, v6, v7, v8, v9, v10])), (st, .inr (8, [.int 0, .int 0, .int 0, w3, w4, w5, w6, w7, w8, w9, w10, w11, w12, w13, w14, w15, w16, w17, w18, w19])), (ou, .inl (dC 101, 1, .inr (.inl f0))), (m0, .inr (10, [.ref nw, z1, z2, z3, z4, z5, z6, z7, z8, z9, z10, z11, z12, z13, z14, z15, z16])), (nw, .inr (12, [t0, t1, .int 0, t3, t4, t5, t6, t7, t8, t9, t10, .int 0, t12, t13, t14, t15, t16, t17, t18, .int 0, t20, t21]))] H) (hD : va_D A [(h0, .inr (0, [.ref st, v1, v2, v3, v4, v5, v6, v7, v8, v9, v10])), (st, .inr (8, [.int 0, .int 0, .int 0, w3, w4, w5, w6, w7, w8, w9, w10, w11, w12, w13, w14, w15, w16, w17, w18, w19])), (ou, .inl (dC 101, 1, .inr (.inl f0))), (m0, .inr (10, [.ref nw, z1, z2, z3, z4, z5, z6, z7, z8, z9, z10, z11, z12, z13, z14, z15, z16])), (nw, .inr (12, [t0, t1, .int 0, t3, t4, t5, t6, t7, t8, t9, t10, .int 0, t12, t13, t14, t15, t16, t17, t18, .int 0, t20, t21]))]) (hS : va_S A s.heap H locs) (hl : lv_has ls 8 [(0, .ref b), (1, .ref h0), (2, .ref m0), (3, .ref ou), (4, .int 0)]) (hend : ∀ (H : Heap) (locs : List Loc) (ls : Array Slot), va_S A s.heap H locs → lv_has ls 8 [(4, .int 0), (0, .ref b)] → W p l e room_1 s m #[Value.ref b] below meth c H locs 600002 7302232 Z (F0 m 3410 ls [])) : W p l e room_1 s m #[Value.ref b] below meth c H locs 403 120029 Z (F0 m 3214 ls []) := by
  subst hL
  refine lv_aload_n hx hb dM_L_law_3214 rfl (lv_at hl 1 rfl) ?_
  refine lv_aload_n hx hb dM_L_law_3215 rfl (lv_at hl 0 rfl) ?_
  refine lv_iload hx hb dM_L_law_3216 (lv_at hl 4 rfl) ?_
  refine lv_iconst (v := 1) hx hb dM_L_law_3218 (by decide) ?_
  refine lv_iadd hx hb dM_L_law_3219 ?_
  refine lv_topi (fun y_1 ey_1 => ?_)
  obtain rfl : y_1 = 1 := ey_1.trans (by decide)
  refine va_sld hx hb hX hbl hbA hS (by unfold vp_in; decide) dM_L_law_3220 ?_
  refine lv_topi (fun y_2 ey_2 => ?_)
  refine lv_aload_n hx hb dM_L_law_3221 rfl (lv_at hl 0 rfl) ?_
  refine lv_iload hx hb dM_L_law_3222 (lv_at hl 4 rfl) ?_
  refine lv_iconst (v := 2) hx hb dM_L_law_3224 (by decide) ?_
  refine lv_iadd hx hb dM_L_law_3225 ?_
  refine lv_topi (fun y_3 ey_3 => ?_)
  obtain rfl : y_3 = 2 := ey_3.trans (by decide)
  refine va_sld hx hb hX hbl hbA hS (by unfold vp_in; decide) dM_L_law_3226 ?_
  refine lv_topi (fun y_4 ey_4 => ?_)
  refine lv_aload_n hx hb dM_L_law_3227 rfl (lv_at hl 0 rfl) ?_
  refine lv_iload hx hb dM_L_law_3228 (lv_at hl 4 rfl) ?_
  refine lv_iconst (v := 3) hx hb dM_L_law_3230 (by decide) ?_
  refine lv_iadd hx hb dM_L_law_3231 ?_
  refine lv_topi (fun y_5 ey_5 => ?_)
  obtain rfl : y_5 = 3 := ey_5.trans (by decide)
  refine va_sld hx hb hX hbl hbA hS (by unfold vp_in; decide) dM_L_law_3232 ?_
  refine lv_topi (fun y_6 ey_6 => ?_)
  refine lv_aload_n hx hb dM_L_law_3233 rfl (lv_at hl 0 rfl) ?_
  refine lv_iload hx hb dM_L_law_3234 (lv_at hl 4 rfl) ?_
  refine lv_iconst (v := 4) hx hb dM_L_law_3236 (by decide) ?_
  refine lv_iadd hx hb dM_L_law_3237 ?_
  refine lv_topi (fun y_7 ey_7 => ?_)
  obtain rfl : y_7 = 4 := ey_7.trans (by decide)
  refine va_sld hx hb hX hbl hbA hS (by unfold vp_in; decide) dM_L_law_3238 ?_
  refine lv_topi (fun y_8 ey_8 => ?_)
  refine lv_i2l (v := y_8.toInt64) hx hb dM_L_law_3239 rfl ?_
  refine lv_bipush (v := 32) hx hb dM_L_law_3240 (by decide) ?_
  refine lv_lshl (v := y_8.toInt64 <<< ((32 : Int32).toInt64 &&& 63)) hx hb dM_L_law_3242 rfl ?_
  refine lv_aload_n hx hb dM_L_law_3243 rfl (lv_at hl 0 rfl) ?_
  refine lv_iload hx hb dM_L_law_3244 (lv_at hl 4 rfl) ?_
  refine lv_iconst (v := 5) hx hb dM_L_law_3246 (by decide) ?_
  refine lv_iadd hx hb dM_L_law_3247 ?_
  refine lv_topi (fun y_9 ey_9 => ?_)
  obtain rfl : y_9 = 5 := ey_9.trans (by decide)
  refine va_sld hx hb hX hbl hbA hS (by unfold vp_in; decide) dM_L_law_3248 ?_
  refine lv_topi (fun y_10 ey_10 => ?_)
  refine lv_i2l (v := y_10.toInt64) hx hb dM_L_law_3249 rfl ?_
  refine lv_ldc2 (v := 4294967295) hx hb hown (hbg _ wd_2851) dM_L_law_3250 ?_
  refine lv_land hx hb dM_L_law_3253 ?_
  refine lv_topl (fun y_11 ey_11 => ?_)
  refine lv_lor hx hb dM_L_law_3254 ?_
  refine lv_topl (fun y_12 ey_12 => ?_)
  refine lv_aload_n hx hb dM_L_law_3255 rfl (lv_at hl 0 rfl) ?_
  refine lv_iload hx hb dM_L_law_3256 (lv_at hl 4 rfl) ?_
  refine lv_bipush (v := 6) hx hb dM_L_law_3258 (by decide) ?_
  refine lv_iadd hx hb dM_L_law_3260 ?_
  refine lv_topi (fun y_13 ey_13 => ?_)
  obtain rfl : y_13 = 6 := ey_13.trans (by decide)
  refine va_sld hx hb hX hbl hbA hS (by unfold vp_in; decide) dM_L_law_3261 ?_
  refine lv_topi (fun y_14 ey_14 => ?_)
  refine lv_aload_n hx hb dM_L_law_3262 rfl (lv_at hl 0 rfl) ?_
  refine lv_iload hx hb dM_L_law_3263 (lv_at hl 4 rfl) ?_
  refine lv_bipush (v := 7) hx hb dM_L_law_3265 (by decide) ?_
  refine lv_iadd hx hb dM_L_law_3267 ?_
  refine lv_topi (fun y_15 ey_15 => ?_)
  obtain rfl : y_15 = 7 := ey_15.trans (by decide)
  refine va_sld hx hb hX hbl hbA hS (by unfold vp_in; decide) dM_L_law_3268 ?_
  refine lv_topi (fun y_16 ey_16 => ?_)
  refine lv_aload_n hx hb dM_L_law_3269 rfl (lv_at hl 3 rfl) ?_
  have hFc := va_free (wc := [(h0, .inr (0, [.ref st, v1, v2, v3, v4, v5, v6, v7, v8, v9, v10])), (st, .inr (8, [.int 0, .int 0, .int 0, w3, w4, w5, w6, w7, w8, w9, w10, w11, w12, w13, w14, w15, w16, w17, w18, w19])), (ou, .inl (dC 101, 1, .inr (.inl f0)))]) hD hS hA [0, 1, 2] rfl
  refine va_calli (vx_runSW (As := [.ref h0, .int y_2, .int y_4, .int y_6, .long y_12, .int y_14, .int y_16, .ref ou]) (rest := []) ⟨hx, hb, hml, hown, hbg⟩ (c_L_seek l hl9 dC dI h0 y_2 y_4 y_6 y_12 y_14 y_16 ou st v1 v2 v3 v4 v5 v6 v7 v8 v9 v10 w3 w4 w5 w6 w7 w8 w9 w10 w11 w12 w13 w14 w15 w16 w17 w18 w19 f0 _ ) (vx_cwSW 8 hbg (gd_S (fun _ h => h) wd_1893 wd_1894 wd_0 (gd_wmW (fun _ h => h) wd_1895)) rfl rfl rfl (by decide +kernel) ⟨Nat.le_of_ble_eq_true rfl, Nat.le_of_ble_eq_true rfl⟩) (nPreS [0, 1, 2] hP hD hK hN hS hA (by decide) rfl) rfl rfl hl.1 rfl (lv_room (Nat.le_of_ble_eq_true rfl)) dM_L_law_3270 ⟨Nat.le_of_ble_eq_true rfl, Nat.le_of_ble_eq_true rfl⟩) hS (fun q _ h => hFc q h) hFc (fun r_17 u t H1 locs ht hvm hw hB hz1 hk1 hS => ?_)
  obtain ⟨rfl, hu_19⟩ := hw
  obtain rfl := hu_19.symm
  obtain ⟨hP1, hD1⟩ := hB
  rw [ht] at hP1
  obtain ⟨hP, hD⟩ := va_join (wr := [(m0, .inr (10, [.ref nw, z1, z2, z3, z4, z5, z6, z7, z8, z9, z10, z11, z12, z13, z14, z15, z16])), (nw, .inr (12, [t0, t1, .int 0, t3, t4, t5, t6, t7, t8, t9, t10, .int 0, t12, t13, t14, t15, t16, t17, t18, .int 0, t20, t21]))]) (w1 := [(ou, .inl (dC 101, 1, .inr (.inl f0)))]) hP hD [0, 1, 2] [3, 4] rfl rfl (by decide) (by decide) hk1 hFc hP1 hD1
  generalize H1 = H at hP hS ⊢
  have hP : va_P (dC, dI) classes [(m0, .inr (10, [.ref nw, z1, z2, z3, z4, z5, z6, z7, z8, z9, z10, z11, z12, z13, z14, z15, z16])), (nw, .inr (12, [t0, t1, .int 0, t3, t4, t5, t6, t7, t8, t9, t10, .int 0, t12, t13, t14, t15, t16, t17, t18, .int 0, t20, t21])), (ou, .inl (dC 101, 1, .inr (.inl f0)))] H := hP
  have hD : va_D A [(m0, .inr (10, [.ref nw, z1, z2, z3, z4, z5, z6, z7, z8, z9, z10, z11, z12, z13, z14, z15, z16])), (nw, .inr (12, [t0, t1, .int 0, t3, t4, t5, t6, t7, t8, t9, t10, .int 0, t12, t13, t14, t15, t16, t17, t18, .int 0, t20, t21])), (ou, .inl (dC 101, 1, .inr (.inl f0)))] := hD
  refine W.widen (k := 404) (n := 120035) (Nat.le_of_ble_eq_true rfl) (Nat.le_of_ble_eq_true rfl) ?_
  refine lv_istore (lv' := [(5, .int 1), (0, .ref b), (1, .ref h0), (2, .ref m0), (3, .ref ou), (4, .int 0)]) hx hb dM_L_law_3273 hl (by decide) rfl (fun ls hl => ?_)
  refine lv_aload_n hx hb dM_L_law_3275 rfl (lv_at hl 3 rfl) ?_
  refine lv_aload_n hx hb dM_L_law_3276 rfl (lv_at hl 1 rfl) ?_
  refine lv_iload hx hb dM_L_law_3277 (lv_at hl 5 rfl) ?_
  refine lv_iconst (v := 1) hx hb dM_L_law_3279 (by decide) ?_
  refine lv_iadd hx hb dM_L_law_3280 ?_
  refine lv_topi (fun y_20 ey_20 => ?_)
  obtain rfl : y_20 = 1 := ey_20.trans (by decide)
  refine va_sld hx hb hX hbl hbA hS (by unfold vp_in; decide) dM_L_law_3281 ?_
  refine lv_topi (fun y_21 ey_21 => ?_)
  obtain rfl : y_2 = y_21 := ey_2.trans ey_21.symm
  refine lv_aload_n hx hb dM_L_law_3282 rfl (lv_at hl 1 rfl) ?_
  refine lv_iload hx hb dM_L_law_3283 (lv_at hl 5 rfl) ?_
  refine lv_iconst (v := 2) hx hb dM_L_law_3285 (by decide) ?_
  refine lv_iadd hx hb dM_L_law_3286 ?_
  refine lv_topi (fun y_22 ey_22 => ?_)
  obtain rfl : y_22 = 2 := ey_22.trans (by decide)
  refine va_sld hx hb hX hbl hbA hS (by unfold vp_in; decide) dM_L_law_3287 ?_
  refine lv_topi (fun y_23 ey_23 => ?_)
  obtain rfl : y_4 = y_23 := ey_4.trans ey_23.symm
  refine lv_aload_n hx hb dM_L_law_3288 rfl (lv_at hl 1 rfl) ?_
  refine lv_iload hx hb dM_L_law_3289 (lv_at hl 5 rfl) ?_
  refine lv_iconst (v := 3) hx hb dM_L_law_3291 (by decide) ?_
  refine lv_iadd hx hb dM_L_law_3292 ?_
  refine lv_topi (fun y_24 ey_24 => ?_)
  obtain rfl : y_24 = 3 := ey_24.trans (by decide)
  refine va_sld hx hb hX hbl hbA hS (by unfold vp_in; decide) dM_L_law_3293 ?_
  refine lv_topi (fun y_25 ey_25 => ?_)
  obtain rfl : y_6 = y_25 := ey_6.trans ey_25.symm
  refine lv_aload_n hx hb dM_L_law_3294 rfl (lv_at hl 1 rfl) ?_
  refine lv_iload hx hb dM_L_law_3295 (lv_at hl 5 rfl) ?_
  refine lv_iconst (v := 4) hx hb dM_L_law_3297 (by decide) ?_
  refine lv_iadd hx hb dM_L_law_3298 ?_
  refine lv_topi (fun y_26 ey_26 => ?_)
  obtain rfl : y_26 = 4 := ey_26.trans (by decide)
  refine va_sld hx hb hX hbl hbA hS (by unfold vp_in; decide) dM_L_law_3299 ?_
  refine lv_topi (fun y_27 ey_27 => ?_)
  obtain rfl : y_8 = y_27 := ey_8.trans ey_27.symm
  refine lv_i2l (v := y_8.toInt64) hx hb dM_L_law_3300 rfl ?_
  refine lv_bipush (v := 32) hx hb dM_L_law_3301 (by decide) ?_
  refine lv_lshl (v := y_8.toInt64 <<< ((32 : Int32).toInt64 &&& 63)) hx hb dM_L_law_3303 rfl ?_
  refine lv_aload_n hx hb dM_L_law_3304 rfl (lv_at hl 1 rfl) ?_
  refine lv_iload hx hb dM_L_law_3305 (lv_at hl 5 rfl) ?_
  refine lv_iconst (v := 5) hx hb dM_L_law_3307 (by decide) ?_
  refine lv_iadd hx hb dM_L_law_3308 ?_
  refine lv_topi (fun y_28 ey_28 => ?_)
  obtain rfl : y_28 = 5 := ey_28.trans (by decide)
  refine va_sld hx hb hX hbl hbA hS (by unfold vp_in; decide) dM_L_law_3309 ?_
  refine lv_topi (fun y_29 ey_29 => ?_)
  obtain rfl : y_10 = y_29 := ey_10.trans ey_29.symm
  refine lv_i2l (v := y_10.toInt64) hx hb dM_L_law_3310 rfl ?_
  refine lv_ldc2 (v := 4294967295) hx hb hown (hbg _ wd_2851) dM_L_law_3311 ?_
  refine lv_land hx hb dM_L_law_3314 ?_
  refine lv_topl (fun y_30 ey_30 => ?_)
  obtain rfl : y_11 = y_30 := ey_11.trans ey_30.symm
  refine lv_lor hx hb dM_L_law_3315 ?_
  refine lv_topl (fun y_31 ey_31 => ?_)
  obtain rfl : y_12 = y_31 := ey_12.trans ey_31.symm
  refine lv_aload_n hx hb dM_L_law_3316 rfl (lv_at hl 1 rfl) ?_
  refine lv_iload hx hb dM_L_law_3317 (lv_at hl 5 rfl) ?_
  refine lv_bipush (v := 6) hx hb dM_L_law_3319 (by decide) ?_
  refine lv_iadd hx hb dM_L_law_3321 ?_
  refine lv_topi (fun y_32 ey_32 => ?_)
  obtain rfl : y_32 = 6 := ey_32.trans (by decide)
  refine va_sld hx hb hX hbl hbA hS (by unfold vp_in; decide) dM_L_law_3322 ?_
  refine lv_topi (fun y_33 ey_33 => ?_)
  obtain rfl : y_14 = y_33 := ey_14.trans ey_33.symm
  refine lv_aload_n hx hb dM_L_law_3323 rfl (lv_at hl 1 rfl) ?_
  refine lv_iload hx hb dM_L_law_3324 (lv_at hl 5 rfl) ?_
  refine lv_bipush (v := 7) hx hb dM_L_law_3326 (by decide) ?_
  refine lv_iadd hx hb dM_L_law_3328 ?_
  refine lv_topi (fun y_34 ey_34 => ?_)
  obtain rfl : y_34 = 7 := ey_34.trans (by decide)
  refine va_sld hx hb hX hbl hbA hS (by unfold vp_in; decide) dM_L_law_3329 ?_
  refine lv_topi (fun y_35 ey_35 => ?_)
  obtain rfl : y_16 = y_35 := ey_16.trans ey_35.symm
  have hFc := va_free (wc := [(m0, .inr (10, [.ref nw, z1, z2, z3, z4, z5, z6, z7, z8, z9, z10, z11, z12, z13, z14, z15, z16])), (nw, .inr (12, [t0, t1, .int 0, t3, t4, t5, t6, t7, t8, t9, t10, .int 0, t12, t13, t14, t15, t16, t17, t18, .int 0, t20, t21]))]) hD hS hA [0, 1] rfl
  refine va_calli (va_runV (As := [.int y_2, .int y_4, .int y_6, .long y_12, .int y_14, .int y_16]) (rest := []) ⟨hx, hb, hml, hown, hbg⟩ (c_M_seek l dC dI m0 y_2 y_4 y_6 y_12 y_14 y_16 nw z1 z2 z3 z4 z5 z6 z7 z8 z9 z10 z11 z12 z13 z14 z15 z16 t0 t1 t3 t4 t5 t6 t7 t8 t9 t10 t12 t13 t14 t15 t16 t17 t18 t20 t21 _ ) (cwV 6 hbg (gd_V (fun _ h => h) wd_2839 wd_2840 wd_2841 wd_12 (gd_wm (fun _ h => h) wd_2842)) rfl rfl rfl (by decide +kernel) ⟨Nat.le_of_ble_eq_true rfl, Nat.le_of_ble_eq_true rfl⟩) (nPreV [0, 1] hP hD hK hN hS hA (by decide) rfl 0 rfl rfl) rfl rfl hl.1 rfl (lv_room (Nat.le_of_ble_eq_true rfl)) dM_L_law_3330 ⟨Nat.le_of_ble_eq_true rfl, Nat.le_of_ble_eq_true rfl⟩) hS (fun q _ h => hFc q h) hFc (fun r_36 u t H1 locs ht hvm hw hB hz1 hk1 hS => ?_)
  obtain ⟨rfl, rfl⟩ := hw
  obtain ⟨r0_38, r1_39, r2_40, r3_41, r4_42, r5_43, r6_44, r7_45, r8_46, r9_47, r10_48, r11_49, r12_50, r13_51, r14_52, r15_53, hP1, hD1⟩ := hB
  rw [ht] at hP1
  obtain ⟨hP, hD⟩ := va_join (wr := [(ou, .inl (dC 101, 1, .inr (.inl f0)))]) (w1 := [(m0, .inr (10, [r0_38, r1_39, r2_40, r3_41, r4_42, r5_43, r6_44, r7_45, r8_46, r9_47, r10_48, r11_49, r12_50, r13_51, r14_52, r15_53, .int 1]))]) hP hD [0, 1] [2] rfl rfl (by decide) (by decide) hk1 hFc hP1 hD1
  generalize H1 = H at hP hS ⊢
  have hP : va_P (dC, dI) classes [(ou, .inl (dC 101, 1, .inr (.inl f0))), (m0, .inr (10, [r0_38, r1_39, r2_40, r3_41, r4_42, r5_43, r6_44, r7_45, r8_46, r9_47, r10_48, r11_49, r12_50, r13_51, r14_52, r15_53, .int 1]))] H := hP
  have hD : va_D A [(ou, .inl (dC 101, 1, .inr (.inl f0))), (m0, .inr (10, [r0_38, r1_39, r2_40, r3_41, r4_42, r5_43, r6_44, r7_45, r8_46, r9_47, r10_48, r11_49, r12_50, r13_51, r14_52, r15_53, .int 1]))] := hD
  refine W.widen (k := 404) (n := 120035) (Nat.le_of_ble_eq_true rfl) (Nat.le_of_ble_eq_true rfl) ?_
  refine lv_istore (lv' := [(6, .int 0), (5, .int 1), (0, .ref b), (1, .ref h0), (2, .ref m0), (3, .ref ou), (4, .int 0)]) hx hb dM_L_law_3333 hl (by decide) rfl (fun ls hl => ?_)
  refine lv_aload_n hx hb dM_L_law_3335 rfl (lv_at hl 4 rfl) ?_
  have hFc := va_free (wc := [(m0, .inr (10, [r0_38, r1_39, r2_40, r3_41, r4_42, r5_43, r6_44, r7_45, r8_46, r9_47, r10_48, r11_49, r12_50, r13_51, r14_52, r15_53, .int 1]))]) hD hS hA [1] rfl
  refine va_calli (va_runV (As := []) (rest := []) ⟨hx, hb, hml, hown, hbg⟩ (c_M_thrown l dC dI m0 r0_38 r1_39 r2_40 r3_41 r4_42 r5_43 r6_44 r7_45 r8_46 r9_47 r10_48 r11_49 r12_50 r13_51 r14_52 r15_53 1 _ ) (cwV 0 hbg (gd_V (fun _ h => h) wd_2190 wd_2191 wd_2192 wd_12 (gd_wm (fun _ h => h) wd_2193)) rfl rfl rfl (by decide +kernel) ⟨Nat.le_of_ble_eq_true rfl, Nat.le_of_ble_eq_true rfl⟩) (nPreV [1] hP hD hK hN hS hA (by decide) rfl 1 rfl rfl) rfl rfl hl.1 rfl (lv_room (Nat.le_of_ble_eq_true rfl)) dM_L_law_3336 ⟨Nat.le_of_ble_eq_true rfl, Nat.le_of_ble_eq_true rfl⟩) hS (fun q _ h => hFc q h) hFc (fun r_54 u t H1 locs ht hvm hw hB hz1 hk1 hS => ?_)
  obtain ⟨rfl, rfl⟩ := hw
  obtain ⟨r0_56, r1_57, r2_58, r3_59, r4_60, r5_61, r6_62, r7_63, r8_64, r9_65, r10_66, r11_67, r12_68, r13_69, r14_70, r15_71, hP1, hD1⟩ := hB
  rw [ht] at hP1
  obtain ⟨hP, hD⟩ := va_join (wr := [(ou, .inl (dC 101, 1, .inr (.inl f0)))]) (w1 := [(m0, .inr (10, [r0_56, r1_57, r2_58, r3_59, r4_60, r5_61, r6_62, r7_63, r8_64, r9_65, r10_66, r11_67, r12_68, r13_69, r14_70, r15_71, .int 1]))]) hP hD [1] [0] rfl rfl (by decide) (by decide) hk1 hFc hP1 hD1
  generalize H1 = H at hP hS ⊢
  have hP : va_P (dC, dI) classes [(ou, .inl (dC 101, 1, .inr (.inl f0))), (m0, .inr (10, [r0_56, r1_57, r2_58, r3_59, r4_60, r5_61, r6_62, r7_63, r8_64, r9_65, r10_66, r11_67, r12_68, r13_69, r14_70, r15_71, .int 1]))] H := hP
  have hD : va_D A [(ou, .inl (dC 101, 1, .inr (.inl f0))), (m0, .inr (10, [r0_56, r1_57, r2_58, r3_59, r4_60, r5_61, r6_62, r7_63, r8_64, r9_65, r10_66, r11_67, r12_68, r13_69, r14_70, r15_71, .int 1]))] := hD
  refine W.widen (k := 404) (n := 120035) (Nat.le_of_ble_eq_true rfl) (Nat.le_of_ble_eq_true rfl) ?_
  refine lv_iload hx hb dM_L_law_3339 (lv_at hl 1 rfl) ?_
  refine lv_icmp_eq (tgt := 3346) hx hb dM_L_law_3341 (by decide) (fun _ => ?_) (fun q => absurd (by decide) q)
  refine lv_iload hx hb dM_L_law_3346 (lv_at hl 1 rfl) ?_
  refine lv_if_ne (tgt := 3363) hx hb dM_L_law_3348 (by decide) (fun _ => ?_) (fun q => absurd q (by decide))
  refine lv_goto (tgt := 3410) hx hb dM_L_law_3363 (by decide) ?_
  refine W.widen (k := 600002) (n := 7302232) (Nat.le_of_ble_eq_true rfl) (Nat.le_of_ble_eq_true rfl) ?_
  exact hend _ _ _ hS (lv_sub hl [6, 2] rfl)
set_option maxHeartbeats 4000000 in
set_option maxRecDepth 100000 in
theorem lawc_42 {p : Program} {e : Env} {s : State} {m : MethodId} {below : List Frame} {meth : Method} {c : Code} {Z : State → Prop} (l : Launch) (hl9 : l.stackTraces = false) (dC : Nat → ClassId) (dI : Nat → Nat → Nat) {A : Nat → Prop} {b L : Nat} {xs : Nat → Int32} (hL : L = 8) (hx : p.tables.exec = Jvm.exec) (hb : c.code = cM_L_law) (hml : c.maxLocals = 8) (hown : s.vm.findClass "NoteDocumentLaw" = some m.cls) (hbg : ∀ w ∈ BIG, w.before #[Value.ref b] s = true) (hK : nK (dC, dI) s) (hN : nS A s s.heap) (hA : ∀ q : Nat, s.heap.size ≤ q → A q) (hX : va_X b L xs s s.heap) (hbl : b < s.heap.size) (hbA : ¬ A b) {H : Heap} {locs : List Loc} {ls : Array Slot} {h0 : Nat} {m0 : Nat} {ou : Nat} {st : Nat} {no : Nat} {ch : Nat} {he : Nat} {de : Nat} {fi : Nat} {v6 : Value} {kp : Nat} {f0 : Nat → Int64} {z0 : Value} {z1 : Value} {z3 : Value} {z4 : Value} {z5 : Value} {z6 : Value} {z7 : Value} {z8 : Value} {z9 : Value} {z10 : Value} {z11 : Value} {z12 : Value} {z13 : Value} {z14 : Value} {z15 : Value} {z16 : Value} (hP : va_P (dC, dI) classes [(h0, .inr (0, [.ref st, .ref no, .ref ch, .ref he, .ref de, .ref fi, v6, .ref kp, .int 0, .int 0, .int 0])), (ou, .inl (dC 101, 1, .inr (.inl f0))), (m0, .inr (10, [z0, z1, .int 0, z3, z4, z5, z6, z7, z8, z9, z10, z11, z12, z13, z14, z15, z16]))] H) (hD : va_D A [(h0, .inr (0, [.ref st, .ref no, .ref ch, .ref he, .ref de, .ref fi, v6, .ref kp, .int 0, .int 0, .int 0])), (ou, .inl (dC 101, 1, .inr (.inl f0))), (m0, .inr (10, [z0, z1, .int 0, z3, z4, z5, z6, z7, z8, z9, z10, z11, z12, z13, z14, z15, z16]))]) (hS : va_S A s.heap H locs) (hl : lv_has ls 8 [(0, .ref b), (1, .ref h0), (2, .ref m0), (3, .ref ou), (4, .int 0)]) (hend : ∀ (H : Heap) (locs : List Loc) (ls : Array Slot), va_S A s.heap H locs → lv_has ls 8 [(4, .int 0), (0, .ref b)] → W p l e room_1 s m #[Value.ref b] below meth c H locs 600002 7302232 Z (F0 m 3410 ls [])) : W p l e room_1 s m #[Value.ref b] below meth c H locs 403 120029 Z (F0 m 3366 ls []) := by
  subst hL
  refine lv_aload_n hx hb dM_L_law_3366 rfl (lv_at hl 1 rfl) ?_
  refine lv_aload_n hx hb dM_L_law_3367 rfl (lv_at hl 3 rfl) ?_
  have hFc := va_free (wc := [(h0, .inr (0, [.ref st, .ref no, .ref ch, .ref he, .ref de, .ref fi, v6, .ref kp, .int 0, .int 0, .int 0])), (ou, .inl (dC 101, 1, .inr (.inl f0)))]) hD hS hA [0, 1] rfl
  refine va_calli (vx_runSW (As := [.ref h0, .ref ou]) (rest := []) ⟨hx, hb, hml, hown, hbg⟩ (c_L_undo l hl9 dC dI h0 ou st no ch he de fi v6 kp f0 _ ) (vx_cwSW 2 hbg (gd_S (fun _ h => h) wd_1902 wd_1903 wd_0 (gd_wmW (fun _ h => h) wd_1904)) rfl rfl rfl (by decide +kernel) ⟨Nat.le_of_ble_eq_true rfl, Nat.le_of_ble_eq_true rfl⟩) (nPreS [0, 1] hP hD hK hN hS hA (by decide) rfl) rfl rfl hl.1 rfl (lv_room (Nat.le_of_ble_eq_true rfl)) dM_L_law_3368 ⟨Nat.le_of_ble_eq_true rfl, Nat.le_of_ble_eq_true rfl⟩) hS (fun q _ h => hFc q h) hFc (fun r_1 u t H1 locs ht hvm hw hB hz1 hk1 hS => ?_)
  obtain ⟨rfl, hu_3⟩ := hw
  obtain rfl := hu_3.symm
  obtain ⟨hP1, hD1⟩ := hB
  rw [ht] at hP1
  obtain ⟨hP, hD⟩ := va_join (wr := [(m0, .inr (10, [z0, z1, .int 0, z3, z4, z5, z6, z7, z8, z9, z10, z11, z12, z13, z14, z15, z16]))]) (w1 := [(ou, .inl (dC 101, 1, .inr (.inl f0)))]) hP hD [0, 1] [2] rfl rfl (by decide) (by decide) hk1 hFc hP1 hD1
  generalize H1 = H at hP hS ⊢
  have hP : va_P (dC, dI) classes [(m0, .inr (10, [z0, z1, .int 0, z3, z4, z5, z6, z7, z8, z9, z10, z11, z12, z13, z14, z15, z16])), (ou, .inl (dC 101, 1, .inr (.inl f0)))] H := hP
  have hD : va_D A [(m0, .inr (10, [z0, z1, .int 0, z3, z4, z5, z6, z7, z8, z9, z10, z11, z12, z13, z14, z15, z16])), (ou, .inl (dC 101, 1, .inr (.inl f0)))] := hD
  refine W.widen (k := 404) (n := 120035) (Nat.le_of_ble_eq_true rfl) (Nat.le_of_ble_eq_true rfl) ?_
  refine lv_istore (lv' := [(5, .int 1), (0, .ref b), (1, .ref h0), (2, .ref m0), (3, .ref ou), (4, .int 0)]) hx hb dM_L_law_3371 hl (by decide) rfl (fun ls hl => ?_)
  refine lv_aload_n hx hb dM_L_law_3373 rfl (lv_at hl 3 rfl) ?_
  have hFc := va_free (wc := [(m0, .inr (10, [z0, z1, .int 0, z3, z4, z5, z6, z7, z8, z9, z10, z11, z12, z13, z14, z15, z16]))]) hD hS hA [0] rfl
  refine va_calli (va_runV (As := []) (rest := []) ⟨hx, hb, hml, hown, hbg⟩ (c_M_undo l dC dI m0 z0 z1 z3 z4 z5 z6 z7 z8 z9 z10 z11 z12 z13 z14 z15 z16 _ ) (cwV 0 hbg (gd_V (fun _ h => h) wd_2847 wd_2848 wd_2849 wd_12 (gd_wm (fun _ h => h) wd_2850)) rfl rfl rfl (by decide +kernel) ⟨Nat.le_of_ble_eq_true rfl, Nat.le_of_ble_eq_true rfl⟩) (nPreV [0] hP hD hK hN hS hA (by decide) rfl 0 rfl rfl) rfl rfl hl.1 rfl (lv_room (Nat.le_of_ble_eq_true rfl)) dM_L_law_3374 ⟨Nat.le_of_ble_eq_true rfl, Nat.le_of_ble_eq_true rfl⟩) hS (fun q _ h => hFc q h) hFc (fun r_4 u t H1 locs ht hvm hw hB hz1 hk1 hS => ?_)
  obtain ⟨rfl, rfl⟩ := hw
  obtain ⟨r0_6, r1_7, r2_8, r3_9, r4_10, r5_11, r6_12, r7_13, r8_14, r9_15, r10_16, r11_17, r12_18, r13_19, r14_20, r15_21, hP1, hD1⟩ := hB
  rw [ht] at hP1
  obtain ⟨hP, hD⟩ := va_join (wr := [(ou, .inl (dC 101, 1, .inr (.inl f0)))]) (w1 := [(m0, .inr (10, [r0_6, r1_7, r2_8, r3_9, r4_10, r5_11, r6_12, r7_13, r8_14, r9_15, r10_16, r11_17, r12_18, r13_19, r14_20, r15_21, .int 1]))]) hP hD [0] [1] rfl rfl (by decide) (by decide) hk1 hFc hP1 hD1
  generalize H1 = H at hP hS ⊢
  have hP : va_P (dC, dI) classes [(ou, .inl (dC 101, 1, .inr (.inl f0))), (m0, .inr (10, [r0_6, r1_7, r2_8, r3_9, r4_10, r5_11, r6_12, r7_13, r8_14, r9_15, r10_16, r11_17, r12_18, r13_19, r14_20, r15_21, .int 1]))] H := hP
  have hD : va_D A [(ou, .inl (dC 101, 1, .inr (.inl f0))), (m0, .inr (10, [r0_6, r1_7, r2_8, r3_9, r4_10, r5_11, r6_12, r7_13, r8_14, r9_15, r10_16, r11_17, r12_18, r13_19, r14_20, r15_21, .int 1]))] := hD
  refine W.widen (k := 404) (n := 120035) (Nat.le_of_ble_eq_true rfl) (Nat.le_of_ble_eq_true rfl) ?_
  refine lv_istore (lv' := [(6, .int 0), (5, .int 1), (0, .ref b), (1, .ref h0), (2, .ref m0), (3, .ref ou), (4, .int 0)]) hx hb dM_L_law_3377 hl (by decide) rfl (fun ls hl => ?_)
  refine lv_aload_n hx hb dM_L_law_3379 rfl (lv_at hl 4 rfl) ?_
  have hFc := va_free (wc := [(m0, .inr (10, [r0_6, r1_7, r2_8, r3_9, r4_10, r5_11, r6_12, r7_13, r8_14, r9_15, r10_16, r11_17, r12_18, r13_19, r14_20, r15_21, .int 1]))]) hD hS hA [1] rfl
  refine va_calli (va_runV (As := []) (rest := []) ⟨hx, hb, hml, hown, hbg⟩ (c_M_thrown l dC dI m0 r0_6 r1_7 r2_8 r3_9 r4_10 r5_11 r6_12 r7_13 r8_14 r9_15 r10_16 r11_17 r12_18 r13_19 r14_20 r15_21 1 _ ) (cwV 0 hbg (gd_V (fun _ h => h) wd_2190 wd_2191 wd_2192 wd_12 (gd_wm (fun _ h => h) wd_2193)) rfl rfl rfl (by decide +kernel) ⟨Nat.le_of_ble_eq_true rfl, Nat.le_of_ble_eq_true rfl⟩) (nPreV [1] hP hD hK hN hS hA (by decide) rfl 1 rfl rfl) rfl rfl hl.1 rfl (lv_room (Nat.le_of_ble_eq_true rfl)) dM_L_law_3380 ⟨Nat.le_of_ble_eq_true rfl, Nat.le_of_ble_eq_true rfl⟩) hS (fun q _ h => hFc q h) hFc (fun r_22 u t H1 locs ht hvm hw hB hz1 hk1 hS => ?_)
  obtain ⟨rfl, rfl⟩ := hw
  obtain ⟨r0_24, r1_25, r2_26, r3_27, r4_28, r5_29, r6_30, r7_31, r8_32, r9_33, r10_34, r11_35, r12_36, r13_37, r14_38, r15_39, hP1, hD1⟩ := hB
  rw [ht] at hP1
  obtain ⟨hP, hD⟩ := va_join (wr := [(ou, .inl (dC 101, 1, .inr (.inl f0)))]) (w1 := [(m0, .inr (10, [r0_24, r1_25, r2_26, r3_27, r4_28, r5_29, r6_30, r7_31, r8_32, r9_33, r10_34, r11_35, r12_36, r13_37, r14_38, r15_39, .int 1]))]) hP hD [1] [0] rfl rfl (by decide) (by decide) hk1 hFc hP1 hD1
  generalize H1 = H at hP hS ⊢
  have hP : va_P (dC, dI) classes [(ou, .inl (dC 101, 1, .inr (.inl f0))), (m0, .inr (10, [r0_24, r1_25, r2_26, r3_27, r4_28, r5_29, r6_30, r7_31, r8_32, r9_33, r10_34, r11_35, r12_36, r13_37, r14_38, r15_39, .int 1]))] H := hP
  have hD : va_D A [(ou, .inl (dC 101, 1, .inr (.inl f0))), (m0, .inr (10, [r0_24, r1_25, r2_26, r3_27, r4_28, r5_29, r6_30, r7_31, r8_32, r9_33, r10_34, r11_35, r12_36, r13_37, r14_38, r15_39, .int 1]))] := hD
  refine W.widen (k := 404) (n := 120035) (Nat.le_of_ble_eq_true rfl) (Nat.le_of_ble_eq_true rfl) ?_
  refine lv_iload hx hb dM_L_law_3383 (lv_at hl 1 rfl) ?_
  refine lv_icmp_eq (tgt := 3390) hx hb dM_L_law_3385 (by decide) (fun _ => ?_) (fun q => absurd (by decide) q)
  refine lv_iload hx hb dM_L_law_3390 (lv_at hl 1 rfl) ?_
  refine lv_if_ne (tgt := 3407) hx hb dM_L_law_3392 (by decide) (fun _ => ?_) (fun q => absurd q (by decide))
  refine lv_goto (tgt := 3410) hx hb dM_L_law_3407 (by decide) ?_
  refine W.widen (k := 600002) (n := 7302232) (Nat.le_of_ble_eq_true rfl) (Nat.le_of_ble_eq_true rfl) ?_
  exact hend _ _ _ hS (lv_sub hl [6, 2] rfl)

theorem dL_law_1793 : decode cL_law 1793 = .ok (.iaload, 1) := by decide +kernel
theorem dL_law_1794 : decode cL_law 1794 = .ok (.aload_n 0, 1) := by decide +kernel
theorem dL_law_1795 : decode cL_law 1795 = .ok (.iload 4, 2) := by decide +kernel
theorem dL_law_1797 : decode cL_law 1797 = .ok (.iconst 3, 1) := by decide +kernel
theorem dL_law_1798 : decode cL_law 1798 = .ok (.iadd, 1) := by decide +kernel
theorem dL_law_1799 : decode cL_law 1799 = .ok (.iaload, 1) := by decide +kernel
theorem dL_law_1800 : decode cL_law 1800 = .ok (.invokevirtual 206, 3) := by decide +kernel
theorem dL_law_1803 : decode cL_law 1803 = .ok (.istore 6, 2) := by decide +kernel
theorem dL_law_1805 : decode cL_law 1805 = .ok (.aload_n 2, 1) := by decide +kernel
theorem dL_law_1806 : decode cL_law 1806 = .ok (.invokevirtual 117, 3) := by decide +kernel
theorem dL_law_1809 : decode cL_law 1809 = .ok (.iload 5, 2) := by decide +kernel
theorem dL_law_1811 : decode cL_law 1811 = .ok (.if_icmp .eq 5, 3) := by decide +kernel
theorem dL_law_1814 : decode cL_law 1814 = .ok (.iconst 0, 1) := by decide +kernel
theorem dL_law_1815 : decode cL_law 1815 = .ok (.ireturn, 1) := by decide +kernel
theorem dL_law_1816 : decode cL_law 1816 = .ok (.iload 5, 2) := by decide +kernel
theorem dL_law_1818 : decode cL_law 1818 = .ok (.ifCond .ne 15, 3) := by decide +kernel
theorem dL_law_1821 : decode cL_law 1821 = .ok (.aload_n 3, 1) := by decide +kernel
theorem dL_law_1822 : decode cL_law 1822 = .ok (.iconst 0, 1) := by decide +kernel
theorem dL_law_1823 : decode cL_law 1823 = .ok (.laload, 1) := by decide +kernel
theorem dL_law_1824 : decode cL_law 1824 = .ok (.iload 6, 2) := by decide +kernel
theorem dL_law_1826 : decode cL_law 1826 = .ok (.i2l, 1) := by decide +kernel
theorem dL_law_1827 : decode cL_law 1827 = .ok (.lcmp, 1) := by decide +kernel
theorem dL_law_1828 : decode cL_law 1828 = .ok (.ifCond .eq 5, 3) := by decide +kernel
theorem dL_law_1831 : decode cL_law 1831 = .ok (.iconst 0, 1) := by decide +kernel
theorem dL_law_1832 : decode cL_law 1832 = .ok (.ireturn, 1) := by decide +kernel
theorem dL_law_1833 : decode cL_law 1833 = .ok (.goto 401, 3) := by decide +kernel
theorem dL_law_1836 : decode cL_law 1836 = .ok (.aload_n 1, 1) := by decide +kernel
theorem dL_law_1837 : decode cL_law 1837 = .ok (.aload_n 0, 1) := by decide +kernel
theorem dL_law_1838 : decode cL_law 1838 = .ok (.iload 4, 2) := by decide +kernel
theorem dL_law_1840 : decode cL_law 1840 = .ok (.iconst 1, 1) := by decide +kernel
theorem dL_law_1841 : decode cL_law 1841 = .ok (.iadd, 1) := by decide +kernel
theorem dL_law_1842 : decode cL_law 1842 = .ok (.iaload, 1) := by decide +kernel
theorem dL_law_1843 : decode cL_law 1843 = .ok (.aload_n 0, 1) := by decide +kernel
theorem dL_law_1844 : decode cL_law 1844 = .ok (.iload 4, 2) := by decide +kernel
theorem dL_law_1846 : decode cL_law 1846 = .ok (.iconst 2, 1) := by decide +kernel
theorem dL_law_1847 : decode cL_law 1847 = .ok (.iadd, 1) := by decide +kernel
theorem dL_law_1848 : decode cL_law 1848 = .ok (.iaload, 1) := by decide +kernel
theorem dL_law_1849 : decode cL_law 1849 = .ok (.aload_n 3, 1) := by decide +kernel
theorem dL_law_1850 : decode cL_law 1850 = .ok (.invokestatic 207, 3) := by decide +kernel
theorem dL_law_1853 : decode cL_law 1853 = .ok (.istore 5, 2) := by decide +kernel
theorem dL_law_1855 : decode cL_law 1855 = .ok (.aload_n 2, 1) := by decide +kernel
theorem dL_law_1856 : decode cL_law 1856 = .ok (.aload_n 0, 1) := by decide +kernel
theorem dL_law_1857 : decode cL_law 1857 = .ok (.iload 4, 2) := by decide +kernel
theorem dL_law_1859 : decode cL_law 1859 = .ok (.iconst 1, 1) := by decide +kernel
theorem dL_law_1860 : decode cL_law 1860 = .ok (.iadd, 1) := by decide +kernel
theorem dL_law_1861 : decode cL_law 1861 = .ok (.iaload, 1) := by decide +kernel
theorem dL_law_1862 : decode cL_law 1862 = .ok (.aload_n 0, 1) := by decide +kernel
theorem dL_law_1863 : decode cL_law 1863 = .ok (.iload 4, 2) := by decide +kernel
theorem dL_law_1865 : decode cL_law 1865 = .ok (.iconst 2, 1) := by decide +kernel
theorem dL_law_1866 : decode cL_law 1866 = .ok (.iadd, 1) := by decide +kernel
theorem dL_law_1867 : decode cL_law 1867 = .ok (.iaload, 1) := by decide +kernel
theorem dL_law_1868 : decode cL_law 1868 = .ok (.invokevirtual 209, 3) := by decide +kernel
theorem dL_law_1871 : decode cL_law 1871 = .ok (.istore 6, 2) := by decide +kernel
theorem dL_law_1873 : decode cL_law 1873 = .ok (.aload_n 2, 1) := by decide +kernel
theorem dL_law_1874 : decode cL_law 1874 = .ok (.invokevirtual 117, 3) := by decide +kernel
theorem dL_law_1877 : decode cL_law 1877 = .ok (.iload 5, 2) := by decide +kernel
theorem dL_law_1879 : decode cL_law 1879 = .ok (.if_icmp .eq 5, 3) := by decide +kernel
theorem dL_law_1882 : decode cL_law 1882 = .ok (.iconst 0, 1) := by decide +kernel
theorem dL_law_1883 : decode cL_law 1883 = .ok (.ireturn, 1) := by decide +kernel
theorem dL_law_1884 : decode cL_law 1884 = .ok (.iload 5, 2) := by decide +kernel
theorem dL_law_1886 : decode cL_law 1886 = .ok (.ifCond .ne 15, 3) := by decide +kernel
theorem dL_law_1889 : decode cL_law 1889 = .ok (.aload_n 3, 1) := by decide +kernel
theorem dL_law_1890 : decode cL_law 1890 = .ok (.iconst 0, 1) := by decide +kernel
theorem dL_law_1891 : decode cL_law 1891 = .ok (.laload, 1) := by decide +kernel
theorem dL_law_1892 : decode cL_law 1892 = .ok (.iload 6, 2) := by decide +kernel
theorem dL_law_1894 : decode cL_law 1894 = .ok (.i2l, 1) := by decide +kernel
theorem dL_law_1895 : decode cL_law 1895 = .ok (.lcmp, 1) := by decide +kernel
theorem dL_law_1896 : decode cL_law 1896 = .ok (.ifCond .eq 5, 3) := by decide +kernel
theorem dL_law_1899 : decode cL_law 1899 = .ok (.iconst 0, 1) := by decide +kernel
theorem dL_law_1900 : decode cL_law 1900 = .ok (.ireturn, 1) := by decide +kernel
theorem dL_law_1901 : decode cL_law 1901 = .ok (.goto 333, 3) := by decide +kernel
theorem dL_law_1904 : decode cL_law 1904 = .ok (.aload_n 1, 1) := by decide +kernel
theorem dL_law_1905 : decode cL_law 1905 = .ok (.invokevirtual 210, 3) := by decide +kernel
theorem dL_law_1908 : decode cL_law 1908 = .ok (.aload_n 2, 1) := by decide +kernel
theorem dL_law_1909 : decode cL_law 1909 = .ok (.invokevirtual 213, 3) := by decide +kernel
theorem dL_law_1912 : decode cL_law 1912 = .ok (.if_icmp .eq 322, 3) := by decide +kernel
theorem dL_law_1915 : decode cL_law 1915 = .ok (.iconst 0, 1) := by decide +kernel
theorem dL_law_1916 : decode cL_law 1916 = .ok (.ireturn, 1) := by decide +kernel
theorem dL_law_1917 : decode cL_law 1917 = .ok (.aload_n 1, 1) := by decide +kernel
theorem dL_law_1918 : decode cL_law 1918 = .ok (.aload_n 0, 1) := by decide +kernel
theorem dL_law_1919 : decode cL_law 1919 = .ok (.iload 4, 2) := by decide +kernel
theorem dL_law_1921 : decode cL_law 1921 = .ok (.iconst 1, 1) := by decide +kernel
theorem dL_law_1922 : decode cL_law 1922 = .ok (.iadd, 1) := by decide +kernel
theorem dL_law_1923 : decode cL_law 1923 = .ok (.iaload, 1) := by decide +kernel
theorem dL_law_1924 : decode cL_law 1924 = .ok (.aload_n 0, 1) := by decide +kernel
theorem dL_law_1925 : decode cL_law 1925 = .ok (.iload 4, 2) := by decide +kernel
theorem dL_law_1927 : decode cL_law 1927 = .ok (.iconst 2, 1) := by decide +kernel
theorem dL_law_1928 : decode cL_law 1928 = .ok (.iadd, 1) := by decide +kernel
theorem dL_law_1929 : decode cL_law 1929 = .ok (.iaload, 1) := by decide +kernel
theorem dL_law_1930 : decode cL_law 1930 = .ok (.aload_n 3, 1) := by decide +kernel
theorem dL_law_1931 : decode cL_law 1931 = .ok (.invokestatic 214, 3) := by decide +kernel
theorem dL_law_1934 : decode cL_law 1934 = .ok (.istore 5, 2) := by decide +kernel
theorem dL_law_1936 : decode cL_law 1936 = .ok (.aload_n 2, 1) := by decide +kernel
theorem dL_law_1937 : decode cL_law 1937 = .ok (.aload_n 0, 1) := by decide +kernel
theorem dL_law_1938 : decode cL_law 1938 = .ok (.iload 4, 2) := by decide +kernel
theorem dL_law_1940 : decode cL_law 1940 = .ok (.iconst 1, 1) := by decide +kernel
theorem dL_law_1941 : decode cL_law 1941 = .ok (.iadd, 1) := by decide +kernel
theorem dL_law_1942 : decode cL_law 1942 = .ok (.iaload, 1) := by decide +kernel
theorem dL_law_1943 : decode cL_law 1943 = .ok (.aload_n 0, 1) := by decide +kernel
theorem dL_law_1944 : decode cL_law 1944 = .ok (.iload 4, 2) := by decide +kernel
theorem dL_law_1946 : decode cL_law 1946 = .ok (.iconst 2, 1) := by decide +kernel
theorem dL_law_1947 : decode cL_law 1947 = .ok (.iadd, 1) := by decide +kernel
theorem dL_law_1948 : decode cL_law 1948 = .ok (.iaload, 1) := by decide +kernel
theorem dL_law_1949 : decode cL_law 1949 = .ok (.invokevirtual 216, 3) := by decide +kernel
theorem dL_law_1952 : decode cL_law 1952 = .ok (.istore 6, 2) := by decide +kernel
theorem dL_law_1954 : decode cL_law 1954 = .ok (.aload_n 2, 1) := by decide +kernel
theorem dL_law_1955 : decode cL_law 1955 = .ok (.invokevirtual 117, 3) := by decide +kernel
theorem dL_law_1958 : decode cL_law 1958 = .ok (.iload 5, 2) := by decide +kernel
theorem dL_law_1960 : decode cL_law 1960 = .ok (.if_icmp .eq 5, 3) := by decide +kernel
theorem dL_law_1963 : decode cL_law 1963 = .ok (.iconst 0, 1) := by decide +kernel
theorem dL_law_1964 : decode cL_law 1964 = .ok (.ireturn, 1) := by decide +kernel
theorem dL_law_1965 : decode cL_law 1965 = .ok (.iload 5, 2) := by decide +kernel
theorem dL_law_1967 : decode cL_law 1967 = .ok (.ifCond .ne 15, 3) := by decide +kernel
theorem dL_law_1970 : decode cL_law 1970 = .ok (.aload_n 3, 1) := by decide +kernel
theorem dL_law_1971 : decode cL_law 1971 = .ok (.iconst 0, 1) := by decide +kernel
theorem dL_law_1972 : decode cL_law 1972 = .ok (.laload, 1) := by decide +kernel
theorem dL_law_1973 : decode cL_law 1973 = .ok (.iload 6, 2) := by decide +kernel
theorem dL_law_1975 : decode cL_law 1975 = .ok (.i2l, 1) := by decide +kernel
theorem dL_law_1976 : decode cL_law 1976 = .ok (.lcmp, 1) := by decide +kernel
theorem dL_law_1977 : decode cL_law 1977 = .ok (.ifCond .eq 5, 3) := by decide +kernel

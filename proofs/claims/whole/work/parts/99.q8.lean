/-! ===== what stands at each place: the law, 8 ===== -/
theorem dL_law__2891 : decode cL_law_ 2891 = .ok (.aload_n 2, 1) := by decide +kernel
theorem dL_law__2892 : decode cL_law_ 2892 = .ok (.invokevirtual 293, 3) := by decide +kernel
theorem dL_law__2895 : decode cL_law_ 2895 = .ok (.if_icmp .eq 55, 3) := by decide +kernel
theorem dL_law__2898 : decode cL_law_ 2898 = .ok (.iconst 0, 1) := by decide +kernel
theorem dL_law__2899 : decode cL_law_ 2899 = .ok (.ireturn, 1) := by decide +kernel
theorem dL_law__2900 : decode cL_law_ 2900 = .ok (.aload_n 1, 1) := by decide +kernel
theorem dL_law__2901 : decode cL_law_ 2901 = .ok (.aload_n 0, 1) := by decide +kernel
theorem dL_law__2902 : decode cL_law_ 2902 = .ok (.iload 4, 2) := by decide +kernel
theorem dL_law__2904 : decode cL_law_ 2904 = .ok (.iconst 1, 1) := by decide +kernel
theorem dL_law__2905 : decode cL_law_ 2905 = .ok (.iadd, 1) := by decide +kernel
theorem dL_law__2906 : decode cL_law_ 2906 = .ok (.iaload, 1) := by decide +kernel
theorem dL_law__2907 : decode cL_law_ 2907 = .ok (.invokevirtual 294, 3) := by decide +kernel
theorem dL_law__2910 : decode cL_law_ 2910 = .ok (.aload_n 2, 1) := by decide +kernel
theorem dL_law__2911 : decode cL_law_ 2911 = .ok (.aload_n 0, 1) := by decide +kernel
theorem dL_law__2912 : decode cL_law_ 2912 = .ok (.iload 4, 2) := by decide +kernel
theorem dL_law__2914 : decode cL_law_ 2914 = .ok (.iconst 1, 1) := by decide +kernel
theorem dL_law__2915 : decode cL_law_ 2915 = .ok (.iadd, 1) := by decide +kernel
theorem dL_law__2916 : decode cL_law_ 2916 = .ok (.iaload, 1) := by decide +kernel
theorem dL_law__2917 : decode cL_law_ 2917 = .ok (.invokevirtual 297, 3) := by decide +kernel
theorem dL_law__2920 : decode cL_law_ 2920 = .ok (.if_icmp .eq 30, 3) := by decide +kernel
theorem dL_law__2923 : decode cL_law_ 2923 = .ok (.iconst 0, 1) := by decide +kernel
theorem dL_law__2924 : decode cL_law_ 2924 = .ok (.ireturn, 1) := by decide +kernel
theorem dL_law__2925 : decode cL_law_ 2925 = .ok (.aload_n 1, 1) := by decide +kernel
theorem dL_law__2926 : decode cL_law_ 2926 = .ok (.aload_n 0, 1) := by decide +kernel
theorem dL_law__2927 : decode cL_law_ 2927 = .ok (.iload 4, 2) := by decide +kernel
theorem dL_law__2929 : decode cL_law_ 2929 = .ok (.iconst 1, 1) := by decide +kernel
theorem dL_law__2930 : decode cL_law_ 2930 = .ok (.iadd, 1) := by decide +kernel
theorem dL_law__2931 : decode cL_law_ 2931 = .ok (.iaload, 1) := by decide +kernel
theorem dL_law__2932 : decode cL_law_ 2932 = .ok (.invokevirtual 298, 3) := by decide +kernel
theorem dL_law__2935 : decode cL_law_ 2935 = .ok (.aload_n 2, 1) := by decide +kernel
theorem dL_law__2936 : decode cL_law_ 2936 = .ok (.aload_n 0, 1) := by decide +kernel
theorem dL_law__2937 : decode cL_law_ 2937 = .ok (.iload 4, 2) := by decide +kernel
theorem dL_law__2939 : decode cL_law_ 2939 = .ok (.iconst 1, 1) := by decide +kernel
theorem dL_law__2940 : decode cL_law_ 2940 = .ok (.iadd, 1) := by decide +kernel
theorem dL_law__2941 : decode cL_law_ 2941 = .ok (.iaload, 1) := by decide +kernel
theorem dL_law__2942 : decode cL_law_ 2942 = .ok (.invokevirtual 301, 3) := by decide +kernel
theorem dL_law__2945 : decode cL_law_ 2945 = .ok (.if_icmp .eq 5, 3) := by decide +kernel
theorem dL_law__2948 : decode cL_law_ 2948 = .ok (.iconst 0, 1) := by decide +kernel
theorem dL_law__2949 : decode cL_law_ 2949 = .ok (.ireturn, 1) := by decide +kernel
theorem dL_law__2950 : decode cL_law_ 2950 = .ok (.iinc 4 6, 3) := by decide +kernel
theorem dL_law__2953 : decode cL_law_ 2953 = .ok (.goto (-2930), 3) := by decide +kernel
theorem dL_law__2956 : decode cL_law_ 2956 = .ok (.iconst 1, 1) := by decide +kernel
theorem dL_law__2957 : decode cL_law_ 2957 = .ok (.ireturn, 1) := by decide +kernel


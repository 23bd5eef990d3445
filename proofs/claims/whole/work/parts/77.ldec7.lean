theorem dL_law_3600 : decode cL_law 3600 = .ok (.aload_n 3, 1) := by decide +kernel
theorem dL_law_3601 : decode cL_law 3601 = .ok (.iconst 0, 1) := by decide +kernel
theorem dL_law_3602 : decode cL_law 3602 = .ok (.laload, 1) := by decide +kernel
theorem dL_law_3603 : decode cL_law 3603 = .ok (.iload 6, 2) := by decide +kernel
theorem dL_law_3605 : decode cL_law 3605 = .ok (.i2l, 1) := by decide +kernel
theorem dL_law_3606 : decode cL_law 3606 = .ok (.lcmp, 1) := by decide +kernel
theorem dL_law_3607 : decode cL_law 3607 = .ok (.ifCond .eq 5, 3) := by decide +kernel
theorem dL_law_3610 : decode cL_law 3610 = .ok (.iconst 0, 1) := by decide +kernel
theorem dL_law_3611 : decode cL_law 3611 = .ok (.ireturn, 1) := by decide +kernel
theorem dL_law_3612 : decode cL_law 3612 = .ok (.goto 456, 3) := by decide +kernel
theorem dL_law_3615 : decode cL_law 3615 = .ok (.aload_n 1, 1) := by decide +kernel
theorem dL_law_3616 : decode cL_law 3616 = .ok (.aload_n 0, 1) := by decide +kernel
theorem dL_law_3617 : decode cL_law 3617 = .ok (.iload 4, 2) := by decide +kernel
theorem dL_law_3619 : decode cL_law 3619 = .ok (.iconst 1, 1) := by decide +kernel
theorem dL_law_3620 : decode cL_law 3620 = .ok (.iadd, 1) := by decide +kernel
theorem dL_law_3621 : decode cL_law 3621 = .ok (.iaload, 1) := by decide +kernel
theorem dL_law_3622 : decode cL_law 3622 = .ok (.aload_n 0, 1) := by decide +kernel
theorem dL_law_3623 : decode cL_law 3623 = .ok (.iload 4, 2) := by decide +kernel
theorem dL_law_3625 : decode cL_law 3625 = .ok (.iconst 2, 1) := by decide +kernel
theorem dL_law_3626 : decode cL_law 3626 = .ok (.iadd, 1) := by decide +kernel
theorem dL_law_3627 : decode cL_law 3627 = .ok (.iaload, 1) := by decide +kernel
theorem dL_law_3628 : decode cL_law 3628 = .ok (.aload_n 3, 1) := by decide +kernel
theorem dL_law_3629 : decode cL_law 3629 = .ok (.invokestatic 387, 3) := by decide +kernel
theorem dL_law_3632 : decode cL_law 3632 = .ok (.istore 5, 2) := by decide +kernel
theorem dL_law_3634 : decode cL_law 3634 = .ok (.aload_n 2, 1) := by decide +kernel
theorem dL_law_3635 : decode cL_law 3635 = .ok (.aload_n 0, 1) := by decide +kernel
theorem dL_law_3636 : decode cL_law 3636 = .ok (.iload 4, 2) := by decide +kernel
theorem dL_law_3638 : decode cL_law 3638 = .ok (.iconst 1, 1) := by decide +kernel
theorem dL_law_3639 : decode cL_law 3639 = .ok (.iadd, 1) := by decide +kernel
theorem dL_law_3640 : decode cL_law 3640 = .ok (.iaload, 1) := by decide +kernel
theorem dL_law_3641 : decode cL_law 3641 = .ok (.aload_n 0, 1) := by decide +kernel
theorem dL_law_3642 : decode cL_law 3642 = .ok (.iload 4, 2) := by decide +kernel
theorem dL_law_3644 : decode cL_law 3644 = .ok (.iconst 2, 1) := by decide +kernel
theorem dL_law_3645 : decode cL_law 3645 = .ok (.iadd, 1) := by decide +kernel
theorem dL_law_3646 : decode cL_law 3646 = .ok (.iaload, 1) := by decide +kernel
theorem dL_law_3647 : decode cL_law 3647 = .ok (.invokevirtual 389, 3) := by decide +kernel
theorem dL_law_3650 : decode cL_law 3650 = .ok (.istore 6, 2) := by decide +kernel
theorem dL_law_3652 : decode cL_law 3652 = .ok (.aload_n 2, 1) := by decide +kernel
theorem dL_law_3653 : decode cL_law 3653 = .ok (.invokevirtual 209, 3) := by decide +kernel
theorem dL_law_3656 : decode cL_law 3656 = .ok (.iload 5, 2) := by decide +kernel
theorem dL_law_3658 : decode cL_law 3658 = .ok (.if_icmp .eq 5, 3) := by decide +kernel
theorem dL_law_3661 : decode cL_law 3661 = .ok (.iconst 0, 1) := by decide +kernel
theorem dL_law_3662 : decode cL_law 3662 = .ok (.ireturn, 1) := by decide +kernel
theorem dL_law_3663 : decode cL_law 3663 = .ok (.iload 5, 2) := by decide +kernel
theorem dL_law_3665 : decode cL_law 3665 = .ok (.ifCond .ne 15, 3) := by decide +kernel
theorem dL_law_3668 : decode cL_law 3668 = .ok (.aload_n 3, 1) := by decide +kernel
theorem dL_law_3669 : decode cL_law 3669 = .ok (.iconst 0, 1) := by decide +kernel
theorem dL_law_3670 : decode cL_law 3670 = .ok (.laload, 1) := by decide +kernel
theorem dL_law_3671 : decode cL_law 3671 = .ok (.iload 6, 2) := by decide +kernel
theorem dL_law_3673 : decode cL_law 3673 = .ok (.i2l, 1) := by decide +kernel
theorem dL_law_3674 : decode cL_law 3674 = .ok (.lcmp, 1) := by decide +kernel
theorem dL_law_3675 : decode cL_law 3675 = .ok (.ifCond .eq 5, 3) := by decide +kernel
theorem dL_law_3678 : decode cL_law 3678 = .ok (.iconst 0, 1) := by decide +kernel
theorem dL_law_3679 : decode cL_law 3679 = .ok (.ireturn, 1) := by decide +kernel
theorem dL_law_3680 : decode cL_law 3680 = .ok (.goto 388, 3) := by decide +kernel
theorem dL_law_3683 : decode cL_law 3683 = .ok (.aload_n 1, 1) := by decide +kernel
theorem dL_law_3684 : decode cL_law 3684 = .ok (.aload_n 3, 1) := by decide +kernel
theorem dL_law_3685 : decode cL_law 3685 = .ok (.invokestatic 390, 3) := by decide +kernel
theorem dL_law_3688 : decode cL_law 3688 = .ok (.istore 5, 2) := by decide +kernel
theorem dL_law_3690 : decode cL_law 3690 = .ok (.aload_n 2, 1) := by decide +kernel
theorem dL_law_3691 : decode cL_law 3691 = .ok (.invokevirtual 393, 3) := by decide +kernel
theorem dL_law_3694 : decode cL_law 3694 = .ok (.istore 6, 2) := by decide +kernel
theorem dL_law_3696 : decode cL_law 3696 = .ok (.aload_n 2, 1) := by decide +kernel
theorem dL_law_3697 : decode cL_law 3697 = .ok (.invokevirtual 209, 3) := by decide +kernel
theorem dL_law_3700 : decode cL_law 3700 = .ok (.iload 5, 2) := by decide +kernel
theorem dL_law_3702 : decode cL_law 3702 = .ok (.if_icmp .eq 5, 3) := by decide +kernel
theorem dL_law_3705 : decode cL_law 3705 = .ok (.iconst 0, 1) := by decide +kernel
theorem dL_law_3706 : decode cL_law 3706 = .ok (.ireturn, 1) := by decide +kernel
theorem dL_law_3707 : decode cL_law 3707 = .ok (.iload 5, 2) := by decide +kernel
theorem dL_law_3709 : decode cL_law 3709 = .ok (.ifCond .ne 15, 3) := by decide +kernel
theorem dL_law_3712 : decode cL_law 3712 = .ok (.aload_n 3, 1) := by decide +kernel
theorem dL_law_3713 : decode cL_law 3713 = .ok (.iconst 0, 1) := by decide +kernel
theorem dL_law_3714 : decode cL_law 3714 = .ok (.laload, 1) := by decide +kernel
theorem dL_law_3715 : decode cL_law 3715 = .ok (.iload 6, 2) := by decide +kernel
theorem dL_law_3717 : decode cL_law 3717 = .ok (.i2l, 1) := by decide +kernel
theorem dL_law_3718 : decode cL_law 3718 = .ok (.lcmp, 1) := by decide +kernel
theorem dL_law_3719 : decode cL_law 3719 = .ok (.ifCond .eq 5, 3) := by decide +kernel
theorem dL_law_3722 : decode cL_law 3722 = .ok (.iconst 0, 1) := by decide +kernel
theorem dL_law_3723 : decode cL_law 3723 = .ok (.ireturn, 1) := by decide +kernel
theorem dL_law_3724 : decode cL_law 3724 = .ok (.goto 344, 3) := by decide +kernel
theorem dL_law_3727 : decode cL_law 3727 = .ok (.aload_n 1, 1) := by decide +kernel
theorem dL_law_3728 : decode cL_law 3728 = .ok (.invokevirtual 394, 3) := by decide +kernel
theorem dL_law_3731 : decode cL_law 3731 = .ok (.aload_n 2, 1) := by decide +kernel
theorem dL_law_3732 : decode cL_law 3732 = .ok (.invokevirtual 397, 3) := by decide +kernel
theorem dL_law_3735 : decode cL_law 3735 = .ok (.if_icmp .eq 333, 3) := by decide +kernel
theorem dL_law_3738 : decode cL_law 3738 = .ok (.iconst 0, 1) := by decide +kernel
theorem dL_law_3739 : decode cL_law 3739 = .ok (.ireturn, 1) := by decide +kernel
theorem dL_law_3740 : decode cL_law 3740 = .ok (.aload_n 1, 1) := by decide +kernel
theorem dL_law_3741 : decode cL_law 3741 = .ok (.aload_n 0, 1) := by decide +kernel
theorem dL_law_3742 : decode cL_law 3742 = .ok (.iload 4, 2) := by decide +kernel
theorem dL_law_3744 : decode cL_law 3744 = .ok (.iconst 1, 1) := by decide +kernel
theorem dL_law_3745 : decode cL_law 3745 = .ok (.iadd, 1) := by decide +kernel
theorem dL_law_3746 : decode cL_law 3746 = .ok (.iaload, 1) := by decide +kernel
theorem dL_law_3747 : decode cL_law 3747 = .ok (.aload_n 3, 1) := by decide +kernel
theorem dL_law_3748 : decode cL_law 3748 = .ok (.invokestatic 398, 3) := by decide +kernel
theorem dL_law_3751 : decode cL_law 3751 = .ok (.istore 5, 2) := by decide +kernel
theorem dL_law_3753 : decode cL_law 3753 = .ok (.aload_n 2, 1) := by decide +kernel
theorem dL_law_3754 : decode cL_law 3754 = .ok (.aload_n 0, 1) := by decide +kernel
theorem dL_law_3755 : decode cL_law 3755 = .ok (.iload 4, 2) := by decide +kernel
theorem dL_law_3757 : decode cL_law 3757 = .ok (.iconst 1, 1) := by decide +kernel
theorem dL_law_3758 : decode cL_law 3758 = .ok (.iadd, 1) := by decide +kernel
theorem dL_law_3759 : decode cL_law 3759 = .ok (.iaload, 1) := by decide +kernel
theorem dL_law_3760 : decode cL_law 3760 = .ok (.invokevirtual 400, 3) := by decide +kernel
theorem dL_law_3763 : decode cL_law 3763 = .ok (.istore 6, 2) := by decide +kernel
theorem dL_law_3765 : decode cL_law 3765 = .ok (.aload_n 2, 1) := by decide +kernel
theorem dL_law_3766 : decode cL_law 3766 = .ok (.invokevirtual 209, 3) := by decide +kernel
theorem dL_law_3769 : decode cL_law 3769 = .ok (.iload 5, 2) := by decide +kernel
theorem dL_law_3771 : decode cL_law 3771 = .ok (.if_icmp .eq 5, 3) := by decide +kernel
theorem dL_law_3774 : decode cL_law 3774 = .ok (.iconst 0, 1) := by decide +kernel
theorem dL_law_3775 : decode cL_law 3775 = .ok (.ireturn, 1) := by decide +kernel
theorem dL_law_3776 : decode cL_law 3776 = .ok (.iload 5, 2) := by decide +kernel
theorem dL_law_3778 : decode cL_law 3778 = .ok (.ifCond .ne 15, 3) := by decide +kernel
theorem dL_law_3781 : decode cL_law 3781 = .ok (.aload_n 3, 1) := by decide +kernel
theorem dL_law_3782 : decode cL_law 3782 = .ok (.iconst 0, 1) := by decide +kernel
theorem dL_law_3783 : decode cL_law 3783 = .ok (.laload, 1) := by decide +kernel
theorem dL_law_3784 : decode cL_law 3784 = .ok (.iload 6, 2) := by decide +kernel
theorem dL_law_3786 : decode cL_law 3786 = .ok (.i2l, 1) := by decide +kernel
theorem dL_law_3787 : decode cL_law 3787 = .ok (.lcmp, 1) := by decide +kernel
theorem dL_law_3788 : decode cL_law 3788 = .ok (.ifCond .eq 5, 3) := by decide +kernel
theorem dL_law_3791 : decode cL_law 3791 = .ok (.iconst 0, 1) := by decide +kernel
theorem dL_law_3792 : decode cL_law 3792 = .ok (.ireturn, 1) := by decide +kernel
theorem dL_law_3793 : decode cL_law 3793 = .ok (.goto 275, 3) := by decide +kernel
theorem dL_law_3796 : decode cL_law 3796 = .ok (.aload_n 1, 1) := by decide +kernel
theorem dL_law_3797 : decode cL_law 3797 = .ok (.aload_n 0, 1) := by decide +kernel
theorem dL_law_3798 : decode cL_law 3798 = .ok (.iload 4, 2) := by decide +kernel
theorem dL_law_3800 : decode cL_law 3800 = .ok (.iconst 1, 1) := by decide +kernel
theorem dL_law_3801 : decode cL_law 3801 = .ok (.iadd, 1) := by decide +kernel
theorem dL_law_3802 : decode cL_law 3802 = .ok (.iaload, 1) := by decide +kernel
theorem dL_law_3803 : decode cL_law 3803 = .ok (.aload_n 3, 1) := by decide +kernel
theorem dL_law_3804 : decode cL_law 3804 = .ok (.invokestatic 401, 3) := by decide +kernel
theorem dL_law_3807 : decode cL_law 3807 = .ok (.istore 5, 2) := by decide +kernel
theorem dL_law_3809 : decode cL_law 3809 = .ok (.aload_n 2, 1) := by decide +kernel
theorem dL_law_3810 : decode cL_law 3810 = .ok (.aload_n 0, 1) := by decide +kernel
theorem dL_law_3811 : decode cL_law 3811 = .ok (.iload 4, 2) := by decide +kernel
theorem dL_law_3813 : decode cL_law 3813 = .ok (.iconst 1, 1) := by decide +kernel
theorem dL_law_3814 : decode cL_law 3814 = .ok (.iadd, 1) := by decide +kernel
theorem dL_law_3815 : decode cL_law 3815 = .ok (.iaload, 1) := by decide +kernel
theorem dL_law_3816 : decode cL_law 3816 = .ok (.invokevirtual 403, 3) := by decide +kernel
theorem dL_law_3819 : decode cL_law 3819 = .ok (.istore 6, 2) := by decide +kernel
theorem dL_law_3821 : decode cL_law 3821 = .ok (.aload_n 2, 1) := by decide +kernel
theorem dL_law_3822 : decode cL_law 3822 = .ok (.invokevirtual 209, 3) := by decide +kernel
theorem dL_law_3825 : decode cL_law 3825 = .ok (.iload 5, 2) := by decide +kernel
theorem dL_law_3827 : decode cL_law 3827 = .ok (.if_icmp .eq 5, 3) := by decide +kernel
theorem dL_law_3830 : decode cL_law 3830 = .ok (.iconst 0, 1) := by decide +kernel
theorem dL_law_3831 : decode cL_law 3831 = .ok (.ireturn, 1) := by decide +kernel
theorem dL_law_3832 : decode cL_law 3832 = .ok (.iload 5, 2) := by decide +kernel
theorem dL_law_3834 : decode cL_law 3834 = .ok (.ifCond .ne 15, 3) := by decide +kernel
theorem dL_law_3837 : decode cL_law 3837 = .ok (.aload_n 3, 1) := by decide +kernel
theorem dL_law_3838 : decode cL_law 3838 = .ok (.iconst 0, 1) := by decide +kernel
theorem dL_law_3839 : decode cL_law 3839 = .ok (.laload, 1) := by decide +kernel
theorem dL_law_3840 : decode cL_law 3840 = .ok (.iload 6, 2) := by decide +kernel
theorem dL_law_3842 : decode cL_law 3842 = .ok (.i2l, 1) := by decide +kernel
theorem dL_law_3843 : decode cL_law 3843 = .ok (.lcmp, 1) := by decide +kernel
theorem dL_law_3844 : decode cL_law 3844 = .ok (.ifCond .eq 5, 3) := by decide +kernel
theorem dL_law_3847 : decode cL_law 3847 = .ok (.iconst 0, 1) := by decide +kernel
theorem dL_law_3848 : decode cL_law 3848 = .ok (.ireturn, 1) := by decide +kernel
theorem dL_law_3849 : decode cL_law 3849 = .ok (.goto 219, 3) := by decide +kernel
theorem dL_law_3852 : decode cL_law 3852 = .ok (.aload_n 1, 1) := by decide +kernel
theorem dL_law_3853 : decode cL_law 3853 = .ok (.aload_n 0, 1) := by decide +kernel
theorem dL_law_3854 : decode cL_law 3854 = .ok (.iload 4, 2) := by decide +kernel
theorem dL_law_3856 : decode cL_law 3856 = .ok (.iconst 1, 1) := by decide +kernel
theorem dL_law_3857 : decode cL_law 3857 = .ok (.iadd, 1) := by decide +kernel
theorem dL_law_3858 : decode cL_law 3858 = .ok (.iaload, 1) := by decide +kernel
theorem dL_law_3859 : decode cL_law 3859 = .ok (.aload_n 3, 1) := by decide +kernel
theorem dL_law_3860 : decode cL_law 3860 = .ok (.invokestatic 404, 3) := by decide +kernel
theorem dL_law_3863 : decode cL_law 3863 = .ok (.istore 5, 2) := by decide +kernel
theorem dL_law_3865 : decode cL_law 3865 = .ok (.aload_n 2, 1) := by decide +kernel
theorem dL_law_3866 : decode cL_law 3866 = .ok (.aload_n 0, 1) := by decide +kernel
theorem dL_law_3867 : decode cL_law 3867 = .ok (.iload 4, 2) := by decide +kernel
theorem dL_law_3869 : decode cL_law 3869 = .ok (.iconst 1, 1) := by decide +kernel
theorem dL_law_3870 : decode cL_law 3870 = .ok (.iadd, 1) := by decide +kernel
theorem dL_law_3871 : decode cL_law 3871 = .ok (.iaload, 1) := by decide +kernel
theorem dL_law_3872 : decode cL_law 3872 = .ok (.invokevirtual 406, 3) := by decide +kernel
theorem dL_law_3875 : decode cL_law 3875 = .ok (.istore 6, 2) := by decide +kernel
theorem dL_law_3877 : decode cL_law 3877 = .ok (.aload_n 2, 1) := by decide +kernel
theorem dL_law_3878 : decode cL_law 3878 = .ok (.invokevirtual 209, 3) := by decide +kernel
theorem dL_law_3881 : decode cL_law 3881 = .ok (.iload 5, 2) := by decide +kernel
theorem dL_law_3883 : decode cL_law 3883 = .ok (.if_icmp .eq 5, 3) := by decide +kernel
theorem dL_law_3886 : decode cL_law 3886 = .ok (.iconst 0, 1) := by decide +kernel
theorem dL_law_3887 : decode cL_law 3887 = .ok (.ireturn, 1) := by decide +kernel
theorem dL_law_3888 : decode cL_law 3888 = .ok (.iload 5, 2) := by decide +kernel
theorem dL_law_3890 : decode cL_law 3890 = .ok (.ifCond .ne 15, 3) := by decide +kernel
theorem dL_law_3893 : decode cL_law 3893 = .ok (.aload_n 3, 1) := by decide +kernel
theorem dL_law_3894 : decode cL_law 3894 = .ok (.iconst 0, 1) := by decide +kernel
theorem dL_law_3895 : decode cL_law 3895 = .ok (.laload, 1) := by decide +kernel
theorem dL_law_3896 : decode cL_law 3896 = .ok (.iload 6, 2) := by decide +kernel
theorem dL_law_3898 : decode cL_law 3898 = .ok (.i2l, 1) := by decide +kernel
theorem dL_law_3899 : decode cL_law 3899 = .ok (.lcmp, 1) := by decide +kernel
theorem dL_law_3900 : decode cL_law 3900 = .ok (.ifCond .eq 5, 3) := by decide +kernel
theorem dL_law_3903 : decode cL_law 3903 = .ok (.iconst 0, 1) := by decide +kernel
theorem dL_law_3904 : decode cL_law 3904 = .ok (.ireturn, 1) := by decide +kernel
theorem dL_law_3905 : decode cL_law 3905 = .ok (.goto 163, 3) := by decide +kernel
theorem dL_law_3908 : decode cL_law 3908 = .ok (.aload_n 1, 1) := by decide +kernel
theorem dL_law_3909 : decode cL_law 3909 = .ok (.aload_n 0, 1) := by decide +kernel
theorem dL_law_3910 : decode cL_law 3910 = .ok (.iload 4, 2) := by decide +kernel
theorem dL_law_3912 : decode cL_law 3912 = .ok (.iconst 1, 1) := by decide +kernel
theorem dL_law_3913 : decode cL_law 3913 = .ok (.iadd, 1) := by decide +kernel
theorem dL_law_3914 : decode cL_law 3914 = .ok (.iaload, 1) := by decide +kernel
theorem dL_law_3915 : decode cL_law 3915 = .ok (.aload_n 0, 1) := by decide +kernel
theorem dL_law_3916 : decode cL_law 3916 = .ok (.iload 4, 2) := by decide +kernel
theorem dL_law_3918 : decode cL_law 3918 = .ok (.iconst 2, 1) := by decide +kernel
theorem dL_law_3919 : decode cL_law 3919 = .ok (.iadd, 1) := by decide +kernel
theorem dL_law_3920 : decode cL_law 3920 = .ok (.iaload, 1) := by decide +kernel
theorem dL_law_3921 : decode cL_law 3921 = .ok (.aload_n 0, 1) := by decide +kernel
theorem dL_law_3922 : decode cL_law 3922 = .ok (.iload 4, 2) := by decide +kernel
theorem dL_law_3924 : decode cL_law 3924 = .ok (.iconst 3, 1) := by decide +kernel
theorem dL_law_3925 : decode cL_law 3925 = .ok (.iadd, 1) := by decide +kernel
theorem dL_law_3926 : decode cL_law 3926 = .ok (.iaload, 1) := by decide +kernel
theorem dL_law_3927 : decode cL_law 3927 = .ok (.aload_n 0, 1) := by decide +kernel
theorem dL_law_3928 : decode cL_law 3928 = .ok (.iload 4, 2) := by decide +kernel
theorem dL_law_3930 : decode cL_law 3930 = .ok (.iconst 4, 1) := by decide +kernel
theorem dL_law_3931 : decode cL_law 3931 = .ok (.iadd, 1) := by decide +kernel
theorem dL_law_3932 : decode cL_law 3932 = .ok (.iaload, 1) := by decide +kernel
theorem dL_law_3933 : decode cL_law 3933 = .ok (.aload_n 0, 1) := by decide +kernel
theorem dL_law_3934 : decode cL_law 3934 = .ok (.iload 4, 2) := by decide +kernel
theorem dL_law_3936 : decode cL_law 3936 = .ok (.iconst 5, 1) := by decide +kernel
theorem dL_law_3937 : decode cL_law 3937 = .ok (.iadd, 1) := by decide +kernel
theorem dL_law_3938 : decode cL_law 3938 = .ok (.iaload, 1) := by decide +kernel
theorem dL_law_3939 : decode cL_law 3939 = .ok (.aload_n 3, 1) := by decide +kernel
theorem dL_law_3940 : decode cL_law 3940 = .ok (.invokestatic 407, 3) := by decide +kernel
theorem dL_law_3943 : decode cL_law 3943 = .ok (.istore 5, 2) := by decide +kernel
theorem dL_law_3945 : decode cL_law 3945 = .ok (.aload_n 2, 1) := by decide +kernel
theorem dL_law_3946 : decode cL_law 3946 = .ok (.aload_n 0, 1) := by decide +kernel
theorem dL_law_3947 : decode cL_law 3947 = .ok (.iload 4, 2) := by decide +kernel
theorem dL_law_3949 : decode cL_law 3949 = .ok (.iconst 1, 1) := by decide +kernel
theorem dL_law_3950 : decode cL_law 3950 = .ok (.iadd, 1) := by decide +kernel
theorem dL_law_3951 : decode cL_law 3951 = .ok (.iaload, 1) := by decide +kernel
theorem dL_law_3952 : decode cL_law 3952 = .ok (.aload_n 0, 1) := by decide +kernel
theorem dL_law_3953 : decode cL_law 3953 = .ok (.iload 4, 2) := by decide +kernel
theorem dL_law_3955 : decode cL_law 3955 = .ok (.iconst 2, 1) := by decide +kernel
theorem dL_law_3956 : decode cL_law 3956 = .ok (.iadd, 1) := by decide +kernel
theorem dL_law_3957 : decode cL_law 3957 = .ok (.iaload, 1) := by decide +kernel
theorem dL_law_3958 : decode cL_law 3958 = .ok (.aload_n 0, 1) := by decide +kernel
theorem dL_law_3959 : decode cL_law 3959 = .ok (.iload 4, 2) := by decide +kernel
theorem dL_law_3961 : decode cL_law 3961 = .ok (.iconst 3, 1) := by decide +kernel
theorem dL_law_3962 : decode cL_law 3962 = .ok (.iadd, 1) := by decide +kernel
theorem dL_law_3963 : decode cL_law 3963 = .ok (.iaload, 1) := by decide +kernel
theorem dL_law_3964 : decode cL_law 3964 = .ok (.aload_n 0, 1) := by decide +kernel
theorem dL_law_3965 : decode cL_law 3965 = .ok (.iload 4, 2) := by decide +kernel
theorem dL_law_3967 : decode cL_law 3967 = .ok (.iconst 4, 1) := by decide +kernel
theorem dL_law_3968 : decode cL_law 3968 = .ok (.iadd, 1) := by decide +kernel
theorem dL_law_3969 : decode cL_law 3969 = .ok (.iaload, 1) := by decide +kernel
theorem dL_law_3970 : decode cL_law 3970 = .ok (.aload_n 0, 1) := by decide +kernel
theorem dL_law_3971 : decode cL_law 3971 = .ok (.iload 4, 2) := by decide +kernel
theorem dL_law_3973 : decode cL_law 3973 = .ok (.iconst 5, 1) := by decide +kernel
theorem dL_law_3974 : decode cL_law 3974 = .ok (.iadd, 1) := by decide +kernel
theorem dL_law_3975 : decode cL_law 3975 = .ok (.iaload, 1) := by decide +kernel
theorem dL_law_3976 : decode cL_law 3976 = .ok (.invokevirtual 409, 3) := by decide +kernel
theorem dL_law_3979 : decode cL_law 3979 = .ok (.istore 6, 2) := by decide +kernel
theorem dL_law_3981 : decode cL_law 3981 = .ok (.aload_n 2, 1) := by decide +kernel
theorem dL_law_3982 : decode cL_law 3982 = .ok (.invokevirtual 209, 3) := by decide +kernel
theorem dL_law_3985 : decode cL_law 3985 = .ok (.iload 5, 2) := by decide +kernel
theorem dL_law_3987 : decode cL_law 3987 = .ok (.if_icmp .eq 5, 3) := by decide +kernel
theorem dL_law_3990 : decode cL_law 3990 = .ok (.iconst 0, 1) := by decide +kernel
theorem dL_law_3991 : decode cL_law 3991 = .ok (.ireturn, 1) := by decide +kernel
theorem dL_law_3992 : decode cL_law 3992 = .ok (.iload 5, 2) := by decide +kernel
theorem dL_law_3994 : decode cL_law 3994 = .ok (.ifCond .ne 15, 3) := by decide +kernel
theorem dL_law_3997 : decode cL_law 3997 = .ok (.aload_n 3, 1) := by decide +kernel
theorem dL_law_3998 : decode cL_law 3998 = .ok (.iconst 0, 1) := by decide +kernel
theorem dL_law_3999 : decode cL_law 3999 = .ok (.laload, 1) := by decide +kernel
theorem dL_law_4000 : decode cL_law 4000 = .ok (.iload 6, 2) := by decide +kernel
theorem dL_law_4002 : decode cL_law 4002 = .ok (.i2l, 1) := by decide +kernel
theorem dL_law_4003 : decode cL_law 4003 = .ok (.lcmp, 1) := by decide +kernel
theorem dL_law_4004 : decode cL_law 4004 = .ok (.ifCond .eq 5, 3) := by decide +kernel
theorem dL_law_4007 : decode cL_law 4007 = .ok (.iconst 0, 1) := by decide +kernel
theorem dL_law_4008 : decode cL_law 4008 = .ok (.ireturn, 1) := by decide +kernel
theorem dL_law_4009 : decode cL_law 4009 = .ok (.goto 59, 3) := by decide +kernel
theorem dL_law_4012 : decode cL_law 4012 = .ok (.aload_n 1, 1) := by decide +kernel
theorem dL_law_4013 : decode cL_law 4013 = .ok (.aload_n 0, 1) := by decide +kernel
theorem dL_law_4014 : decode cL_law 4014 = .ok (.iload 4, 2) := by decide +kernel
theorem dL_law_4016 : decode cL_law 4016 = .ok (.iconst 1, 1) := by decide +kernel
theorem dL_law_4017 : decode cL_law 4017 = .ok (.iadd, 1) := by decide +kernel
theorem dL_law_4018 : decode cL_law 4018 = .ok (.iaload, 1) := by decide +kernel
theorem dL_law_4019 : decode cL_law 4019 = .ok (.aload_n 3, 1) := by decide +kernel
theorem dL_law_4020 : decode cL_law 4020 = .ok (.invokestatic 410, 3) := by decide +kernel
theorem dL_law_4023 : decode cL_law 4023 = .ok (.istore 5, 2) := by decide +kernel
theorem dL_law_4025 : decode cL_law 4025 = .ok (.aload_n 2, 1) := by decide +kernel
theorem dL_law_4026 : decode cL_law 4026 = .ok (.aload_n 0, 1) := by decide +kernel
theorem dL_law_4027 : decode cL_law 4027 = .ok (.iload 4, 2) := by decide +kernel
theorem dL_law_4029 : decode cL_law 4029 = .ok (.iconst 1, 1) := by decide +kernel
theorem dL_law_4030 : decode cL_law 4030 = .ok (.iadd, 1) := by decide +kernel
theorem dL_law_4031 : decode cL_law 4031 = .ok (.iaload, 1) := by decide +kernel
theorem dL_law_4032 : decode cL_law 4032 = .ok (.invokevirtual 412, 3) := by decide +kernel
theorem dL_law_4035 : decode cL_law 4035 = .ok (.istore 6, 2) := by decide +kernel
theorem dL_law_4037 : decode cL_law 4037 = .ok (.aload_n 2, 1) := by decide +kernel
theorem dL_law_4038 : decode cL_law 4038 = .ok (.invokevirtual 209, 3) := by decide +kernel
theorem dL_law_4041 : decode cL_law 4041 = .ok (.iload 5, 2) := by decide +kernel
theorem dL_law_4043 : decode cL_law 4043 = .ok (.if_icmp .eq 5, 3) := by decide +kernel
theorem dL_law_4046 : decode cL_law 4046 = .ok (.iconst 0, 1) := by decide +kernel
theorem dL_law_4047 : decode cL_law 4047 = .ok (.ireturn, 1) := by decide +kernel
theorem dL_law_4048 : decode cL_law 4048 = .ok (.iload 5, 2) := by decide +kernel
theorem dL_law_4050 : decode cL_law 4050 = .ok (.ifCond .ne 15, 3) := by decide +kernel
theorem dL_law_4053 : decode cL_law 4053 = .ok (.aload_n 3, 1) := by decide +kernel
theorem dL_law_4054 : decode cL_law 4054 = .ok (.iconst 0, 1) := by decide +kernel
theorem dL_law_4055 : decode cL_law 4055 = .ok (.laload, 1) := by decide +kernel
theorem dL_law_4056 : decode cL_law 4056 = .ok (.iload 6, 2) := by decide +kernel
theorem dL_law_4058 : decode cL_law 4058 = .ok (.i2l, 1) := by decide +kernel
theorem dL_law_4059 : decode cL_law 4059 = .ok (.lcmp, 1) := by decide +kernel
theorem dL_law_4060 : decode cL_law 4060 = .ok (.ifCond .eq 5, 3) := by decide +kernel
theorem dL_law_4063 : decode cL_law 4063 = .ok (.iconst 0, 1) := by decide +kernel
theorem dL_law_4064 : decode cL_law 4064 = .ok (.ireturn, 1) := by decide +kernel
theorem dL_law_4065 : decode cL_law 4065 = .ok (.goto 3, 3) := by decide +kernel
theorem dL_law_4068 : decode cL_law 4068 = .ok (.iinc 4 6, 3) := by decide +kernel
theorem dL_law_4071 : decode cL_law 4071 = .ok (.goto (-4048), 3) := by decide +kernel
theorem dL_law_4074 : decode cL_law 4074 = .ok (.iconst 1, 1) := by decide +kernel
theorem dL_law_4075 : decode cL_law 4075 = .ok (.ireturn, 1) := by decide +kernel
